/-! ===== the rule: the reference's day, the questions ===== -/
section RU4
variable {W : VW} {V : VL} {tw en sd : Nat} {P : PL} {N : Nat} {H : HL} {n : Nat} {S : ST}
theorem XRr_XSR {S S' : ST} (h : Df XRr S S') : Df XSR S S' := h.mono (fun a j hx => by
  refine nx_Rr ?_
  simp only [XSR, decide_eq_false_iff_not, Bool.or_eq_false_iff, Bool.and_eq_false_iff, beq_eq_false_iff_ne] at hx
  omega)
theorem Xc_XSR {a : Nat} {S S' : ST} (h : Df (Xc a) S S') (ha : 144 ≤ a ∧ a ≤ 154) : Df XSR S S' := h.mono (fun c j hx => by
  simp only [XSR, Xc, decide_eq_false_iff_not, Bool.or_eq_false_iff, Bool.and_eq_false_iff, beq_eq_false_iff_ne] at hx ⊢
  omega)
/-- a row is copied onto the next -/
theorem r_copy {h : Nat} {L : Nat → Nat → Bool} {cont : ST → Option (Int32 × ST ⊕ ST)} {R : Int32 × ST ⊕ ST → Prop} (hR : RRep W sd S) (hW : WF W) (hn : 30000 ≤ n) (hh : h < 24) (hK : KRow S (W 0 1) h L) (hZ : KRow S (W 0 1) (h + 1) (fun _ _ => false)) (hc : ∀ S', Df (Xc 144) S S' → (∀ j M, j ≠ h + 1 → KRow S (W 0 1) j M → KRow S' (W 0 1) j M) → KRow S' (W 0 1) (h + 1) L → Ok (cont S') R) :
    Ok ((iter (fun (s8 : Int32 × ST) => (E_X12_has n s8.2 (1 : Int32)).bind fun v9 => if v9 ≤ s8.1 then some (.inr s8.2) else (rd (s8.2.1 144) 250 ((((10 : Int32) * (nI h)) + (10 : Int32)) + s8.1)).bind fun v11 => (rd (s8.2.1 144) 250 (((10 : Int32) * (nI h)) + s8.1)).bind fun v12 => (wr s8.2 144 250 ((((10 : Int32) * (nI h)) + (10 : Int32)) + s8.1) (v11 ||| v12)).bind fun S13 => some (.inl ((s8.1 + (1 : Int32)), S13))) n ((0 : Int32), S)).bind fun (e8 : ST) => cont e8) R := by
  have hm1 : W 0 1 ≤ 10 := hW.mx (k := 1) (by decide)
  refine bindL (fun i q => q.1 = nI i ∧ Df (Xc 144) S q.2 ∧ (∀ x, (x < 10 * h + 10 ∨ 10 * h + 10 + i ≤ x) → q.2.1 144 x = S.1 144 x) ∧ ∀ p, p < i → q.2.1 144 (10 * h + 10 + p) = bs (L p) 6) (fun S' => Df (Xc 144) S S' ∧ (∀ x, (x < 10 * h + 10 ∨ 10 * h + 10 + W 0 1 ≤ x) → S'.1 144 x = S.1 144 x) ∧ ∀ p, p < W 0 1 → S'.1 144 (10 * h + 10 + p) = bs (L p) 6) 0 (W 0 1) (Nat.zero_le _) (by omega) ⟨rfl, Df.refl _ _, fun _ _ => rfl, fun p hp => absurd hp (by omega)⟩ ?_ ?_ ?_
  · rintro i ⟨y, S2⟩ _ hi ⟨rfl, d2, h1, h2⟩
    dsimp only at d2 h1 h2 ⊢
    have hR2 := Xc_R hR d2 (by decide)
    have a1 : S2.1 144 (10 * h + 10 + i) = 0 := by
      rw [h1 _ (by omega)]
      have := hZ i hi
      rw [show 10 * (h + 1) + i = 10 * h + 10 + i by omega, bs_false] at this
      exact this
    have a2 : S2.1 144 (10 * h + i) = bs (L i) 6 := by
      rw [h1 _ (by omega)]
      exact hK i hi
    apply Ok.step (r_h1 hR2)
    refine Ok.ifF (by simp (disch := omega) only [↓reduceIte, Option.bind_some, jn, lets, Sum.elim_inl, Sum.elim_inr, if_true, if_false, rd_nI, wr_nI, rd_z, rd_o, wr_z, wr_o, nI_1, nI_add, pk_mul, nI_leI, nI_ltI, nI_eq, z_le, le_z, z_lt, lt_z, eq_z, eq_o, le_o, o_le, lt_o, o_lt, eq_m1, eq_m2, m1_eq, m2_eq, m1_lt, m1_le, o_z, z_o, m1_z, m1_o, m2_z, m2_o, m2_m1, z_lz, z_lo, o_lz, o_ez, z_ez, z_eo, m2_lt, m2_le, leF, leT, ltF, ltT, eqF, eqT, bI_z, bI_o, sh1, sh0, not_true_eq_false, not_false_eq_true, ne_eq, Bool.true_eq_false, Bool.false_eq_true, true_and, and_true, false_and, and_false, l_2, l_3, l_4, l_5, l_6, l_7, l_8, l_9, l_10, l_11, l_12, l_13, l_14, l_15, l_16, l_17, l_18, l_19, l_20, l_21, l_22, l_23, l_24, l_25, l_26, l_27, l_28, l_29, l_30, l_32, l_33, l_34, l_35, l_36, l_37, l_38, l_39, l_50, l_60, l_99, l_100, l_150, l_160, l_240, l_250, l_300, l_400, l_402, l_403, l_420, l_500, l_600, l_840, l_1000, l_1024, l_2000, l_2047, l_2048, l_10000, l_25600, l_500000]) ?_
    apply Ok.step (x := (0 : Int32)) (by simp (disch := omega) only [↓reduceIte, Option.bind_some, jn, lets, Sum.elim_inl, Sum.elim_inr, if_true, if_false, rd_nI, wr_nI, rd_z, rd_o, wr_z, wr_o, nI_1, nI_add, pk_mul, nI_leI, nI_ltI, nI_eq, z_le, le_z, z_lt, lt_z, eq_z, eq_o, le_o, o_le, lt_o, o_lt, eq_m1, eq_m2, m1_eq, m2_eq, m1_lt, m1_le, o_z, z_o, m1_z, m1_o, m2_z, m2_o, m2_m1, z_lz, z_lo, o_lz, o_ez, z_ez, z_eo, m2_lt, m2_le, leF, leT, ltF, ltT, eqF, eqT, bI_z, bI_o, sh1, sh0, not_true_eq_false, not_false_eq_true, ne_eq, Bool.true_eq_false, Bool.false_eq_true, true_and, and_true, false_and, and_false, l_2, l_3, l_4, l_5, l_6, l_7, l_8, l_9, l_10, l_11, l_12, l_13, l_14, l_15, l_16, l_17, l_18, l_19, l_20, l_21, l_22, l_23, l_24, l_25, l_26, l_27, l_28, l_29, l_30, l_32, l_33, l_34, l_35, l_36, l_37, l_38, l_39, l_50, l_60, l_99, l_100, l_150, l_160, l_240, l_250, l_300, l_400, l_402, l_403, l_420, l_500, l_600, l_840, l_1000, l_1024, l_2000, l_2047, l_2048, l_10000, l_25600, l_500000, a1])
    apply Ok.step (x := bs (L i) 6) (by simp (disch := omega) only [↓reduceIte, Option.bind_some, jn, lets, Sum.elim_inl, Sum.elim_inr, if_true, if_false, rd_nI, wr_nI, rd_z, rd_o, wr_z, wr_o, nI_1, nI_add, pk_mul, nI_leI, nI_ltI, nI_eq, z_le, le_z, z_lt, lt_z, eq_z, eq_o, le_o, o_le, lt_o, o_lt, eq_m1, eq_m2, m1_eq, m2_eq, m1_lt, m1_le, o_z, z_o, m1_z, m1_o, m2_z, m2_o, m2_m1, z_lz, z_lo, o_lz, o_ez, z_ez, z_eo, m2_lt, m2_le, leF, leT, ltF, ltT, eqF, eqT, bI_z, bI_o, sh1, sh0, not_true_eq_false, not_false_eq_true, ne_eq, Bool.true_eq_false, Bool.false_eq_true, true_and, and_true, false_and, and_false, l_2, l_3, l_4, l_5, l_6, l_7, l_8, l_9, l_10, l_11, l_12, l_13, l_14, l_15, l_16, l_17, l_18, l_19, l_20, l_21, l_22, l_23, l_24, l_25, l_26, l_27, l_28, l_29, l_30, l_32, l_33, l_34, l_35, l_36, l_37, l_38, l_39, l_50, l_60, l_99, l_100, l_150, l_160, l_240, l_250, l_300, l_400, l_402, l_403, l_420, l_500, l_600, l_840, l_1000, l_1024, l_2000, l_2047, l_2048, l_10000, l_25600, l_500000, a2])
    apply Ok.step (x := upI S2 144 (10 * h + 10 + i) (bs (L i) 6)) (by simp (disch := omega) only [↓reduceIte, Option.bind_some, jn, lets, Sum.elim_inl, Sum.elim_inr, if_true, if_false, rd_nI, wr_nI, rd_z, rd_o, wr_z, wr_o, nI_1, nI_add, pk_mul, nI_leI, nI_ltI, nI_eq, z_le, le_z, z_lt, lt_z, eq_z, eq_o, le_o, o_le, lt_o, o_lt, eq_m1, eq_m2, m1_eq, m2_eq, m1_lt, m1_le, o_z, z_o, m1_z, m1_o, m2_z, m2_o, m2_m1, z_lz, z_lo, o_lz, o_ez, z_ez, z_eo, m2_lt, m2_le, leF, leT, ltF, ltT, eqF, eqT, bI_z, bI_o, sh1, sh0, not_true_eq_false, not_false_eq_true, ne_eq, Bool.true_eq_false, Bool.false_eq_true, true_and, and_true, false_and, and_false, l_2, l_3, l_4, l_5, l_6, l_7, l_8, l_9, l_10, l_11, l_12, l_13, l_14, l_15, l_16, l_17, l_18, l_19, l_20, l_21, l_22, l_23, l_24, l_25, l_26, l_27, l_28, l_29, l_30, l_32, l_33, l_34, l_35, l_36, l_37, l_38, l_39, l_50, l_60, l_99, l_100, l_150, l_160, l_240, l_250, l_300, l_400, l_402, l_403, l_420, l_500, l_600, l_840, l_1000, l_1024, l_2000, l_2047, l_2048, l_10000, l_25600, l_500000, show (0 : Int32) ||| bs (L i) 6 = bs (L i) 6 from b_ext (fun j _ => by rw [b_or, b_0]; simp)])
    refine Ok.inl ⟨nI_1 _, d2.up rfl, fun x hx => ?_, fun p hp => ?_⟩
    · dsimp only
      rw [upI_at, if_neg (by omega)]
      exact h1 x (by omega)
    · dsimp only
      by_cases e : p = i
      · rw [upI_at, if_pos ⟨rfl, by omega⟩, e]
      · rw [upI_at, if_neg (by omega)]
        exact h2 p (by omega)
  · rintro ⟨y, S2⟩ ⟨rfl, d2, h1, h2⟩
    dsimp only at d2 h1 h2 ⊢
    have hR2 := Xc_R hR d2 (by decide)
    apply Ok.step (r_h1 hR2)
    exact Ok.ifT (by simp (disch := omega) only [↓reduceIte, Option.bind_some, jn, lets, Sum.elim_inl, Sum.elim_inr, if_true, if_false, rd_nI, wr_nI, rd_z, rd_o, wr_z, wr_o, nI_1, nI_add, pk_mul, nI_leI, nI_ltI, nI_eq, z_le, le_z, z_lt, lt_z, eq_z, eq_o, le_o, o_le, lt_o, o_lt, eq_m1, eq_m2, m1_eq, m2_eq, m1_lt, m1_le, o_z, z_o, m1_z, m1_o, m2_z, m2_o, m2_m1, z_lz, z_lo, o_lz, o_ez, z_ez, z_eo, m2_lt, m2_le, leF, leT, ltF, ltT, eqF, eqT, bI_z, bI_o, sh1, sh0, not_true_eq_false, not_false_eq_true, ne_eq, Bool.true_eq_false, Bool.false_eq_true, true_and, and_true, false_and, and_false, l_2, l_3, l_4, l_5, l_6, l_7, l_8, l_9, l_10, l_11, l_12, l_13, l_14, l_15, l_16, l_17, l_18, l_19, l_20, l_21, l_22, l_23, l_24, l_25, l_26, l_27, l_28, l_29, l_30, l_32, l_33, l_34, l_35, l_36, l_37, l_38, l_39, l_50, l_60, l_99, l_100, l_150, l_160, l_240, l_250, l_300, l_400, l_402, l_403, l_420, l_500, l_600, l_840, l_1000, l_1024, l_2000, l_2047, l_2048, l_10000, l_25600, l_500000]) (Ok.inr ⟨d2, h1, h2⟩)
  · rintro S2 ⟨d2, h1, h2⟩
    refine hc S2 d2 (fun j M hj hM p hp => ?_) (fun p hp => ?_)
    · rw [h1 _ (by omega)]
      exact hM p hp
    · rw [show 10 * (h + 1) + p = 10 * h + 10 + p by omega]
      exact h2 p hp
theorem ruOne_fin {h p : Nat} {Z : RS} (hF : ∀ q t, Z.1 q t ≤ h + 1 ∨ Z.1 q t = 99) : ∀ q t, (ruOne W V h p Z).1 q t ≤ h + 1 ∨ (ruOne W V h p Z).1 q t = 99 := by
  intro q t
  unfold ruOne
  split
  · dsimp only
    have := hF q t
    split <;> omega
  · exact hF q t
theorem ruHour_fin {h : Nat} {Z : RS} (hF : ∀ q t, Z.1 q t ≤ h + 1 ∨ Z.1 q t = 99) : ∀ i q t, (ruHour W V h Z i).1 q t ≤ h + 1 ∨ (ruHour W V h Z i).1 q t = 99 := by
  intro i
  induction i with
  | zero => exact hF
  | succ i ih => exact ruOne_fin ih
theorem ruSt_fin : ∀ h q t, (ruSt W V h).1 q t ≤ h ∨ (ruSt W V h).1 q t = 99 := by
  intro h
  induction h with
  | zero => intro q t; show (if wFirst W q t = true then 0 else 99) ≤ 0 ∨ (if wFirst W q t = true then 0 else 99) = 99; split <;> omega
  | succ h ih => exact ruHour_fin (fun q t => by have := ih q t; omega) _
/-- what the reference keeps of the rule, at hour h -/
def RRu (W : VW) (h : Nat) (Z : RS) (S S' : ST) : Prop := Df XSR S S' ∧ S'.1 95 61 = 0 ∧ S'.1 95 73 = -1 ∧ (∀ j, j ≤ h → KRow S' (W 0 1) j (fun q t => decide (Z.1 q t ≤ j))) ∧ (∀ j, h < j → j < 25 → KRow S' (W 0 1) j (fun _ _ => false)) ∧ S'.1 95 82 = nI Z.2.1 ∧ S'.1 95 83 = nI Z.2.2
theorem r_rules (hI : RI W V sd P N H S) (hW : WF W) (hn : 30000 ≤ n) : Ok (E_X12_rules n S) (fun S' => RI W V sd P N H S' ∧ RRu W 24 (ruSt W V 24) S S') := by
  have hm1 : W 0 1 ≤ 10 := hW.mx (k := 1) (by decide)
  have nx : ∀ {S'}, RRu W 24 (ruSt W V 24) S S' → RI W V sd P N H S' := fun h => hI.dfS h.1 h.2.1 h.2.2.1
  unfold E_X12_rules
  apply Ok.letsU
  generalize hS1 : upI S 95 61 0 = S1
  have d1 : Df XSR S S1 := by rw [← hS1]; exact XSR_up (Df.refl _ _) (by omega)
  have a1 : S1.1 95 61 = 0 := by rw [← hS1, upI_at, if_pos ⟨rfl, rfl⟩]
  have b1 : S1.1 95 73 = -1 := by rw [← hS1, upI_at, if_neg (by omega)]; exact hI.2.2.2.2.2
  have hR1 := (hI.weak d1).1
  obtain ⟨S2, e2, d2, k2, z2⟩ := r_starts hR1 hW hn
  apply Ok.step e2
  apply Ok.letsU
  apply Ok.letsU
  generalize hS3 : upI (upI S2 95 82 0) 95 83 0 = S3
  have d2' : Df XSR S S2 := d1.trans (Xc_XSR d2 (by decide))
  have d3 : Df XSR S S3 := by rw [← hS3]; exact XSR_up (XSR_up d2' (by omega)) (by omega)
  have d3c : Df (fun a j => a == 95 && (j == 82 || j == 83)) S2 S3 := by rw [← hS3]; exact ((Df.refl _ _).up rfl).up rfl
  have r3 : RRu W 0 (ruSt W V 0) S S3 := by
    refine ⟨d3, ?_, ?_, ?_, ?_, ?_, ?_⟩
    · rw [d3c.2 _ _ rfl, d2.2 _ _ rfl]; exact a1
    · rw [d3c.2 _ _ rfl, d2.2 _ _ rfl]; exact b1
    · intro j hj
      have : j = 0 := by omega
      subst this
      refine (k2.df d3c (fun _ => rfl)).congr (fun q t _ _ => ?_)
      show wFirst W q t = decide ((if wFirst W q t = true then 0 else 99) ≤ 0)
      by_cases c : wFirst W q t = true
      · simp [c]
      · simp [c]
    · intro j hj hj2
      exact (z2 j (by omega) hj2).df d3c (fun _ => rfl)
    · rw [← hS3, upI_at, if_neg (by omega), upI_at, if_pos ⟨rfl, rfl⟩]; rfl
    · rw [← hS3, upI_at, if_pos ⟨rfl, rfl⟩]; rfl
  refine bindL (fun h q => q.1 = nI h ∧ RRu W h (ruSt W V h) S q.2) (fun S' => RRu W 24 (ruSt W V 24) S S') 0 24 (by decide) (by omega) ⟨rfl, r3⟩ ?_ ?_ (fun S' h => Ok.ret ⟨nx h, h⟩)
  · rintro h ⟨y, S4⟩ _ hh ⟨rfl, d4, a4, b4, k4, z4, p4, q4⟩
    dsimp only at d4 a4 b4 k4 z4 p4 q4 ⊢
    have hR4 := (hI.weak d4).1
    refine Ok.ifF (by simp (disch := omega) only [↓reduceIte, Option.bind_some, jn, lets, Sum.elim_inl, Sum.elim_inr, if_true, if_false, rd_nI, wr_nI, rd_z, rd_o, wr_z, wr_o, nI_1, nI_add, pk_mul, nI_leI, nI_ltI, nI_eq, z_le, le_z, z_lt, lt_z, eq_z, eq_o, le_o, o_le, lt_o, o_lt, eq_m1, eq_m2, m1_eq, m2_eq, m1_lt, m1_le, o_z, z_o, m1_z, m1_o, m2_z, m2_o, m2_m1, z_lz, z_lo, o_lz, o_ez, z_ez, z_eo, m2_lt, m2_le, leF, leT, ltF, ltT, eqF, eqT, bI_z, bI_o, sh1, sh0, not_true_eq_false, not_false_eq_true, ne_eq, Bool.true_eq_false, Bool.false_eq_true, true_and, and_true, false_and, and_false, l_2, l_3, l_4, l_5, l_6, l_7, l_8, l_9, l_10, l_11, l_12, l_13, l_14, l_15, l_16, l_17, l_18, l_19, l_20, l_21, l_22, l_23, l_24, l_25, l_26, l_27, l_28, l_29, l_30, l_32, l_33, l_34, l_35, l_36, l_37, l_38, l_39, l_50, l_60, l_99, l_100, l_150, l_160, l_240, l_250, l_300, l_400, l_402, l_403, l_420, l_500, l_600, l_840, l_1000, l_1024, l_2000, l_2047, l_2048, l_10000, l_25600, l_500000]) ?_
    refine r_copy hR4 hW hn hh (k4 h (Nat.le_refl _)) (z4 (h + 1) (by omega) (by omega)) (fun S5 d5 k5 n5 => ?_)
    have hR5 := Xc_R hR4 d5 (by decide)
    have d5' : Df XSR S S5 := d4.trans (Xc_XSR d5 (by decide))
    obtain ⟨S6, e6, d6, hs⟩ := r_ranks (a1 := nI h) (a2 := 0) (K := (wAge W · h)) hR5 hW hn (r_ahead0 hR5 hW (h := h) (by omega))
    apply Ok.step e6
    have d6' : Df XSR S S6 := d5'.trans (Xc_XSR d6 (by decide))
    have fin := ruSt_fin (W := W) (V := V) h
    have k6 : ∀ j, j ≤ h + 1 → KRow S6 (W 0 1) j (fun q t => decide ((ruSt W V h).1 q t ≤ j)) := fun j hj => by
      refine KRow.df ?_ d6 (fun _ => rfl)
      by_cases e : j = h + 1
      · subst e
        refine n5.congr (fun q t _ _ => ?_)
        have := fin q t
        congr 1
        apply propext
        omega
      · exact k5 j _ e (k4 j (by omega))
    have z6 : ∀ j, h + 1 < j → j < 25 → KRow S6 (W 0 1) j (fun _ _ => false) := fun j hj hj2 => (k5 j _ (by omega) (z4 j (by omega) hj2)).df d6 (fun _ => rfl)
    have o6 : ∀ j, S6.1 95 j = S4.1 95 j := fun j => by rw [d6.2 95 j rfl, d5.2 95 j rfl]
    refine bindL (fun i q => q.1 = nI i ∧ RRu W (h + 1) (ruHour W V h (ruSt W V h) i) S q.2 ∧ q.2.1 154 = S6.1 154) (fun S' => RRu W (h + 1) (ruSt W V (h + 1)) S S') 0 (W 0 1) (Nat.zero_le _) (by omega) ⟨rfl, ⟨d6', by rw [o6]; exact a4, by rw [o6]; exact b4, k6, z6, by rw [o6]; exact p4, by rw [o6]; exact q4⟩, rfl⟩ ?_ ?_ ?_
    · rintro i ⟨y, S7⟩ _ hi ⟨rfl, ⟨d7, a7, b7, k7, z7, p7, q7⟩, o7⟩
      dsimp only at d7 a7 b7 k7 z7 p7 q7 o7 ⊢
      obtain ⟨hR7, hL7, _⟩ := hI.weak d7
      obtain ⟨p, hp, h8, h9⟩ := hs i hi
      apply Ok.step (r_h1 hR7)
      refine Ok.ifF (by simp (disch := omega) only [↓reduceIte, Option.bind_some, jn, lets, Sum.elim_inl, Sum.elim_inr, if_true, if_false, rd_nI, wr_nI, rd_z, rd_o, wr_z, wr_o, nI_1, nI_add, pk_mul, nI_leI, nI_ltI, nI_eq, z_le, le_z, z_lt, lt_z, eq_z, eq_o, le_o, o_le, lt_o, o_lt, eq_m1, eq_m2, m1_eq, m2_eq, m1_lt, m1_le, o_z, z_o, m1_z, m1_o, m2_z, m2_o, m2_m1, z_lz, z_lo, o_lz, o_ez, z_ez, z_eo, m2_lt, m2_le, leF, leT, ltF, ltT, eqF, eqT, bI_z, bI_o, sh1, sh0, not_true_eq_false, not_false_eq_true, ne_eq, Bool.true_eq_false, Bool.false_eq_true, true_and, and_true, false_and, and_false, l_2, l_3, l_4, l_5, l_6, l_7, l_8, l_9, l_10, l_11, l_12, l_13, l_14, l_15, l_16, l_17, l_18, l_19, l_20, l_21, l_22, l_23, l_24, l_25, l_26, l_27, l_28, l_29, l_30, l_32, l_33, l_34, l_35, l_36, l_37, l_38, l_39, l_50, l_60, l_99, l_100, l_150, l_160, l_240, l_250, l_300, l_400, l_402, l_403, l_420, l_500, l_600, l_840, l_1000, l_1024, l_2000, l_2047, l_2048, l_10000, l_25600, l_500000]) ?_
      apply Ok.step (x := nI p) (by rw [o7, rd_nI (by omega) (by decide), h8])
      have hr : wRank W h i = p := by rw [← h9]; exact wRank_of hp
      obtain ⟨S8, e8, d8, k8, z8, p8, q8⟩ := r_tellsMost (V := V) (h := h) (p := p) hR7 hL7 hW hn a7 k7 p7 q7 hp hh
      apply Ok.step e8
      have er : ruHour W V h (ruSt W V h) (i + 1) = ruOne W V h p (ruHour W V h (ruSt W V h) i) := by rw [ruHour, hr]
      refine Ok.inl ⟨nI_1 _, ?_, ?_⟩
      · rw [er]
        exact ⟨d7.trans (XRr_XSR d8), by dsimp only; rw [d8.2 _ _ rfl]; exact a7, by dsimp only; rw [d8.2 _ _ rfl]; exact b7, k8, fun j hj hj2 => z8 j hj _ (z7 j hj hj2), p8, q8⟩
      · dsimp only
        rw [← o7]
        funext x
        exact d8.2 154 x rfl
    · rintro ⟨y, S7⟩ ⟨rfl, h7, o7⟩
      obtain ⟨hR7, hL7, _⟩ := hI.weak h7.1
      apply Ok.step (r_h1 hR7)
      exact Ok.ifT (by simp (disch := omega) only [↓reduceIte, Option.bind_some, jn, lets, Sum.elim_inl, Sum.elim_inr, if_true, if_false, rd_nI, wr_nI, rd_z, rd_o, wr_z, wr_o, nI_1, nI_add, pk_mul, nI_leI, nI_ltI, nI_eq, z_le, le_z, z_lt, lt_z, eq_z, eq_o, le_o, o_le, lt_o, o_lt, eq_m1, eq_m2, m1_eq, m2_eq, m1_lt, m1_le, o_z, z_o, m1_z, m1_o, m2_z, m2_o, m2_m1, z_lz, z_lo, o_lz, o_ez, z_ez, z_eo, m2_lt, m2_le, leF, leT, ltF, ltT, eqF, eqT, bI_z, bI_o, sh1, sh0, not_true_eq_false, not_false_eq_true, ne_eq, Bool.true_eq_false, Bool.false_eq_true, true_and, and_true, false_and, and_false, l_2, l_3, l_4, l_5, l_6, l_7, l_8, l_9, l_10, l_11, l_12, l_13, l_14, l_15, l_16, l_17, l_18, l_19, l_20, l_21, l_22, l_23, l_24, l_25, l_26, l_27, l_28, l_29, l_30, l_32, l_33, l_34, l_35, l_36, l_37, l_38, l_39, l_50, l_60, l_99, l_100, l_150, l_160, l_240, l_250, l_300, l_400, l_402, l_403, l_420, l_500, l_600, l_840, l_1000, l_1024, l_2000, l_2047, l_2048, l_10000, l_25600, l_500000]) (Ok.inr h7)
    · rintro S7 h7
      exact Ok.inl ⟨nI_1 _, h7⟩
  · rintro ⟨y, S4⟩ ⟨rfl, h4⟩
    exact Ok.ifT (by simp (disch := omega) only [↓reduceIte, Option.bind_some, jn, lets, Sum.elim_inl, Sum.elim_inr, if_true, if_false, rd_nI, wr_nI, rd_z, rd_o, wr_z, wr_o, nI_1, nI_add, pk_mul, nI_leI, nI_ltI, nI_eq, z_le, le_z, z_lt, lt_z, eq_z, eq_o, le_o, o_le, lt_o, o_lt, eq_m1, eq_m2, m1_eq, m2_eq, m1_lt, m1_le, o_z, z_o, m1_z, m1_o, m2_z, m2_o, m2_m1, z_lz, z_lo, o_lz, o_ez, z_ez, z_eo, m2_lt, m2_le, leF, leT, ltF, ltT, eqF, eqT, bI_z, bI_o, sh1, sh0, not_true_eq_false, not_false_eq_true, ne_eq, Bool.true_eq_false, Bool.false_eq_true, true_and, and_true, false_and, and_false, l_2, l_3, l_4, l_5, l_6, l_7, l_8, l_9, l_10, l_11, l_12, l_13, l_14, l_15, l_16, l_17, l_18, l_19, l_20, l_21, l_22, l_23, l_24, l_25, l_26, l_27, l_28, l_29, l_30, l_32, l_33, l_34, l_35, l_36, l_37, l_38, l_39, l_50, l_60, l_99, l_100, l_150, l_160, l_240, l_250, l_300, l_400, l_402, l_403, l_420, l_500, l_600, l_840, l_1000, l_1024, l_2000, l_2047, l_2048, l_10000, l_25600, l_500000]) (Ok.inr h4)
theorem XRg_XCl {S S' : ST} (h : Df XRg S S') : Df XCl S S' := h.mono (fun a j hx => by
  simp only [XCl, XRg, XRu, decide_eq_false_iff_not, Bool.or_eq_false_iff, Bool.and_eq_false_iff, beq_eq_false_iff_ne] at hx ⊢
  omega)
theorem XRg_XQA {S S' : ST} (h : Df XRg S S') : Df XQA S S' := h.mono (fun a j hx => by
  simp only [XQA, XRg, XRu, Bool.not_eq_false', decide_eq_false_iff_not, Bool.or_eq_false_iff, Bool.or_eq_true, Bool.not_eq_true', Bool.and_eq_false_iff, Bool.and_eq_true, decide_eq_true_eq, beq_iff_eq, beq_eq_false_iff_ne] at hx ⊢
  omega)
/-- both go through the day by the rule -/
theorem bothR (hI : IV W V tw en sd P N H S) (hn : 30000 ≤ n) : ∃ S1 S2, E_X6_go n S tw = some S1 ∧ E_X12_rules n S1 = some S2 ∧ CI W V tw en P N H S1 ∧ RuRes W V S1 ∧ RI W V sd P N H S1 ∧ RI W V sd P N H S2 ∧ RRu W 24 (ruSt W V 24) S1 S2 ∧ IV W V tw en sd P N H S2 ∧ Df XQA S S2 := by
  obtain ⟨hW, hPW, hHW, hC, hR⟩ := hI
  obtain ⟨S1, e1, d1, hC1, r1⟩ := c_rule hC hW hn
  have hR1 := hR.dfC (XRg_XCl d1)
  obtain ⟨S2, e2, hR2, r2⟩ := r_rules hR1 hW hn
  exact ⟨S1, S2, e1, e2, hC1, r1, hR1, hR2, r2, ⟨hW, hPW, hHW, hC1.dfR (XSR_XRf r2.1), hR2⟩, (XRg_XQA d1).trans (XSR_XQA r2.1)⟩
theorem q_rule (hI : IV W V tw en sd P N H S) (hn : 30000 ≤ n) (x : Int32) : Sc (fun S => E_X11_rule n S tw x) (fun S => E_X12_rule n S x) S (IV W V tw en sd P N H) := by
  have hI0 := hI
  obtain ⟨hW, hPW, hHW, hC, hR⟩ := hI
  have r2' : ∀ {S}, E_X12_in n S x 0 (2 : Int32) = some (bI (vB x 3)) := r_inK (m := 2) (by decide)
  unfold E_X11_rule E_X12_rule
  cases c1 : vB x 3
  · refine Sc.no ?_ (by rw [r2', c1]; rfl) hI0
    by_cases c : x < 0
    · rw [if_pos c]
    · rw [if_neg c, if_neg]
      obtain ⟨j, hj, rfl⟩ := nI_of c
      intro z
      have : j ≤ 2 := (nI_leI (b := 2) hj (by decide)).mp z
      rw [vB_nI (by omega)] at c1
      simp at c1
      omega
  obtain ⟨k, hk, rfl⟩ := vB_t (by omega) c1
  obtain ⟨S1, S2, e1, e2, hC1, r1, hR1, hR2, r2, hI2, d⟩ := bothR hI0 hn
  have hr : E_X12_rule n S1 (nI k) = E_X12_rule n S1 (nI k) := rfl
  have e0 : ¬ nI k < 0 := nI_pos (by omega)
  have e3 : nI k ≤ (2 : Int32) := nI_le (b := 2) (by omega) (by decide)
  match k, hk with
  | 0, _ =>
    refine ⟨nI (wHarm W (ruSt W V 24).1 (W 0 6)), S1, S2, ?_, ?_, hI2, d⟩
    · dsimp only
      rw [if_neg e0, if_pos e3, e1, Option.bind_some, if_pos (by decide), c_harm hC1.1 hW hn r1.1 (ruSt_99 24), Option.bind_some]
    · dsimp only
      rw [r2', c1, Option.bind_some, if_neg (by decide), e2, Option.bind_some, if_pos (by decide), r_harm hR2.1 hW hn r2.2.2.2.1, Option.bind_some]
  | 1, _ =>
    refine ⟨nI (ruSt W V 24).2.1, S1, S2, ?_, ?_, hI2, d⟩
    · dsimp only
      rw [if_neg e0, if_pos e3, e1, Option.bind_some, if_neg (by decide), if_pos (by decide), r1.2.1]
    · dsimp only
      rw [r2', c1, Option.bind_some, if_neg (by decide), e2, Option.bind_some, if_neg (by decide), if_pos (by decide), r2.2.2.2.2.2.1]
  | 2, _ =>
    refine ⟨nI (ruSt W V 24).2.2, S1, S2, ?_, ?_, hI2, d⟩
    · dsimp only
      rw [if_neg e0, if_pos e3, e1, Option.bind_some, if_neg (by decide), if_neg (by decide), r1.2.2]
    · dsimp only
      rw [r2', c1, Option.bind_some, if_neg (by decide), e2, Option.bind_some, if_neg (by decide), if_neg (by decide), r2.2.2.2.2.2.2]
theorem q_ruled (hI : IV W V tw en sd P N H S) (hn : 30000 ≤ n) (x y : Int32) : Sc (fun S => E_X11_ruled n S tw x y) (fun S => E_X12_ruled n S x y) S (IV W V tw en sd P N H) := by
  have hI0 := hI
  obtain ⟨hW, hPW, hHW, hC, hR⟩ := hI
  have hm1 : W 0 1 ≤ 10 := hW.mx (k := 1) (by decide)
  unfold E_X11_ruled E_X12_ruled
  cases c1 : vB x (W 0 1)
  · exact Sc.no (by rw [c_v1 hC.1 hW, c1]; rfl) (by rw [r_vP hR.1 hW, c1]; rfl) hI0
  cases c2 : vB y 25
  · exact Sc.no (by rw [c_v1 hC.1 hW, c1, Option.bind_some, if_neg (by decide), c_vE, c2]; rfl) (by rw [r_vP hR.1 hW, c1, Option.bind_some, if_neg (by decide), r_vE, c2]; rfl) hI0
  obtain ⟨p, hp, rfl⟩ := vB_t (by omega) c1
  obtain ⟨h, hh, rfl⟩ := vB_t (by omega) c2
  obtain ⟨S1, S2, e1, e2, hC1, r1, hR1, hR2, r2, hI2, d⟩ := bothR hI0 hn
  refine ⟨bs (fun t => decide ((ruSt W V 24).1 p t ≤ h)) 6, S1, S2, ?_, ?_, hI2, d⟩
  · have hg : ∀ t, t < 6 → (ruSt W V 24).1 p t ≤ 99 := fun t _ => ruSt_99 24 p t
    dsimp only
    rw [c_v1 hC.1 hW, c1, Option.bind_some, if_neg (by decide), c_vE, c2, Option.bind_some, if_neg (by decide), e1, Option.bind_some, c_thingsOf r1.1 hn hp hg (by omega)]
    rfl
  · dsimp only
    rw [r_vP hR1.1 hW, c1, Option.bind_some, if_neg (by decide), r_vE, c2, Option.bind_some, if_neg (by decide), e2, Option.bind_some]
    apply Ok.e
    (repeat (first | ((with_reducible apply Ok.step); · ((try simp (disch := omega) only [↓reduceIte, Option.bind_some, Sum.elim_inl, Sum.elim_inr, if_true, if_false, rd_nI, wr_nI, rd_z, rd_o, wr_z, wr_o, nI_1, nI_add, pk_mul, nI_leI, nI_ltI, nI_eq, z_le, le_z, z_lt, lt_z, eq_z, eq_o, le_o, o_le, lt_o, o_lt, eq_m1, eq_m2, m1_eq, m2_eq, m1_lt, m1_le, o_z, z_o, m1_z, m1_o, m2_z, m2_o, m2_m1, z_lz, z_lo, o_lz, o_ez, z_ez, z_eo, m2_lt, m2_le, leF, leT, ltF, ltT, eqF, eqT, bI_z, bI_o, sh1, sh0, not_true_eq_false, not_false_eq_true, ne_eq, Bool.true_eq_false, Bool.false_eq_true, true_and, and_true, false_and, and_false, l_2, l_3, l_4, l_5, l_6, l_7, l_8, l_9, l_10, l_11, l_12, l_13, l_14, l_15, l_16, l_17, l_18, l_19, l_20, l_21, l_22, l_23, l_24, l_25, l_26, l_27, l_28, l_29, l_30, l_32, l_33, l_34, l_35, l_36, l_37, l_38, l_39, l_50, l_60, l_99, l_100, l_150, l_160, l_240, l_250, l_300, l_400, l_402, l_403, l_420, l_500, l_600, l_840, l_1000, l_1024, l_2000, l_2047, l_2048, l_10000, l_25600, l_500000, r2.2.2.2.1 h (by omega) p hp]); with_reducible exact rfl)) | ((with_reducible apply Ok.ifT); · (first | (simp (disch := omega) only [↓reduceIte, Option.bind_some, Sum.elim_inl, Sum.elim_inr, if_true, if_false, rd_nI, wr_nI, rd_z, rd_o, wr_z, wr_o, nI_1, nI_add, pk_mul, nI_leI, nI_ltI, nI_eq, z_le, le_z, z_lt, lt_z, eq_z, eq_o, le_o, o_le, lt_o, o_lt, eq_m1, eq_m2, m1_eq, m2_eq, m1_lt, m1_le, o_z, z_o, m1_z, m1_o, m2_z, m2_o, m2_m1, z_lz, z_lo, o_lz, o_ez, z_ez, z_eo, m2_lt, m2_le, leF, leT, ltF, ltT, eqF, eqT, bI_z, bI_o, sh1, sh0, not_true_eq_false, not_false_eq_true, ne_eq, Bool.true_eq_false, Bool.false_eq_true, true_and, and_true, false_and, and_false, l_2, l_3, l_4, l_5, l_6, l_7, l_8, l_9, l_10, l_11, l_12, l_13, l_14, l_15, l_16, l_17, l_18, l_19, l_20, l_21, l_22, l_23, l_24, l_25, l_26, l_27, l_28, l_29, l_30, l_32, l_33, l_34, l_35, l_36, l_37, l_38, l_39, l_50, l_60, l_99, l_100, l_150, l_160, l_240, l_250, l_300, l_400, l_402, l_403, l_420, l_500, l_600, l_840, l_1000, l_1024, l_2000, l_2047, l_2048, l_10000, l_25600, l_500000, r2.2.2.2.1 h (by omega) p hp]; done) | omega)) | ((with_reducible apply Ok.ifF); · (first | (simp (disch := omega) only [↓reduceIte, Option.bind_some, Sum.elim_inl, Sum.elim_inr, if_true, if_false, rd_nI, wr_nI, rd_z, rd_o, wr_z, wr_o, nI_1, nI_add, pk_mul, nI_leI, nI_ltI, nI_eq, z_le, le_z, z_lt, lt_z, eq_z, eq_o, le_o, o_le, lt_o, o_lt, eq_m1, eq_m2, m1_eq, m2_eq, m1_lt, m1_le, o_z, z_o, m1_z, m1_o, m2_z, m2_o, m2_m1, z_lz, z_lo, o_lz, o_ez, z_ez, z_eo, m2_lt, m2_le, leF, leT, ltF, ltT, eqF, eqT, bI_z, bI_o, sh1, sh0, not_true_eq_false, not_false_eq_true, ne_eq, Bool.true_eq_false, Bool.false_eq_true, true_and, and_true, false_and, and_false, l_2, l_3, l_4, l_5, l_6, l_7, l_8, l_9, l_10, l_11, l_12, l_13, l_14, l_15, l_16, l_17, l_18, l_19, l_20, l_21, l_22, l_23, l_24, l_25, l_26, l_27, l_28, l_29, l_30, l_32, l_33, l_34, l_35, l_36, l_37, l_38, l_39, l_50, l_60, l_99, l_100, l_150, l_160, l_240, l_250, l_300, l_400, l_402, l_403, l_420, l_500, l_600, l_840, l_1000, l_1024, l_2000, l_2047, l_2048, l_10000, l_25600, l_500000, r2.2.2.2.1 h (by omega) p hp]; done) | omega)) | with_reducible apply Ok.jnU | with_reducible apply Ok.letsU | with_reducible apply Ok.elL | with_reducible apply Ok.elR | ((with_reducible apply Ok.gdT); · exact bI_nar _)))
    exact Ok.ret rfl
end RU4
