/-! ===== the rule, by the reference ===== -/
def XTl (a j : Nat) : Bool := XM a j || (a == 95 && (j == 84 || (j == 85 || (j == 86 || j == 87))))
theorem XM_XTl {S S' : ST} (h : Df XM S S') : Df XTl S S' := h.mono (fun a j hx => by
  simp only [XTl, Bool.or_eq_false_iff] at hx
  exact hx.1)
def XRr (a j : Nat) : Bool := XTl a j || (a == 144 || (a == 95 && (j == 82 || j == 83)))
theorem XTl_XRr {S S' : ST} (h : Df XTl S S') : Df XRr S S' := h.mono (fun a j hx => by
  simp only [XRr, Bool.or_eq_false_iff] at hx
  exact hx.1)
theorem nx_Tl {a j : Nat} (h : a ≠ 137 ∧ a ≠ 138 ∧ (a ≠ 95 ∨ (j ≠ 60 ∧ (j < 84 ∨ 87 < j)))) : XTl a j = false := by
  simp only [XTl, XM, Bool.or_eq_false_iff, Bool.and_eq_false_iff, beq_eq_false_iff_ne]
  omega
theorem nx_Rr {a j : Nat} (h : a ≠ 137 ∧ a ≠ 138 ∧ a ≠ 144 ∧ (a ≠ 95 ∨ (j ≠ 60 ∧ (j < 82 ∨ 87 < j)))) : XRr a j = false := by
  simp only [XRr, XTl, XM, Bool.or_eq_false_iff, Bool.and_eq_false_iff, beq_eq_false_iff_ne]
  omega
def BstR (W : VW) (V : VL) (h p : Nat) (b : Nat × Nat) (S : ST) : Prop := S.1 95 84 = nI b.1 ∧ (0 < b.1 → S.1 95 85 = bs (wChP W V h p b.2) (W 0 1) ∧ S.1 95 86 = nI (wChT W b.2) ∧ S.1 95 87 = nI (wChC W b.2))
section RU2
variable {W : VW} {V : VL} {tw en sd : Nat} {P : PL} {N : Nat} {H : HL} {n : Nat} {S : ST}
theorem BstR.df {h p : Nat} {b : Nat × Nat} {X : Nat → Nat → Bool} {S S' : ST} (hB : BstR W V h p b S) (d : Df X S S') (hx : ∀ j, 83 < j → j < 88 → X 95 j = false) : BstR W V h p b S' := by
  refine ⟨by rw [d.2 _ _ (hx 84 (by omega) (by omega))]; exact hB.1, fun z => ?_⟩
  obtain ⟨h1, h2, h3⟩ := hB.2 z
  exact ⟨by rw [d.2 _ _ (hx 85 (by omega) (by omega))]; exact h1, by rw [d.2 _ _ (hx 86 (by omega) (by omega))]; exact h2, by rw [d.2 _ _ (hx 87 (by omega) (by omega))]; exact h3⟩
theorem r_offers {F : FT2} {h t p : Nat} {b : Nat × Nat} {j : Nat} {x : Int32} {cst : Int32} (hR : RRep W sd S) (hW : WF W) (hn : 30000 ≤ n) (hK : KRow S (W 0 1) (h + 1) (fun p t => decide (F p t ≤ h + 1))) (ht : t < W 0 2) (hh : h < 24) (hB : BstR W V h p b S) (hb : b.1 ≤ 1200) (ex : x = bs (wChP W V h p j) (W 0 1)) (et : wChT W j = t) (ec : cst = nI (wChC W j)) : Ok (E_X12_offers n S x (nI h) (nI t) cst) (fun S' => Df XTl S S' ∧ BstR W V h p (if b.1 < wGn W F h t (wChP W V h p j) (W 0 6) then (wGn W F h t (wChP W V h p j) (W 0 6), j) else b) S') := by
  have hg := wGn_le hW (F := F) (h := h) (X := wChP W V h p j) ht
  subst ex
  unfold E_X12_offers
  apply Ok.step (r_gain hR hW hn hK ht hh)
  by_cases c : b.1 < wGn W F h t (wChP W V h p j) (W 0 6)
  · refine Ok.ifT (by rw [hB.1]; exact nI_lt c (by omega)) ?_
    apply Ok.letsU
    apply Ok.letsU
    apply Ok.letsU
    apply Ok.letsU
    rw [if_pos c]
    refine Ok.ret ⟨(((((Df.refl _ _).up rfl).up rfl).up rfl).up rfl), ?_, fun _ => ⟨?_, ?_, ?_⟩⟩
    · rw [upI_at, if_neg (by omega), upI_at, if_neg (by omega), upI_at, if_neg (by omega), upI_at, if_pos ⟨rfl, rfl⟩]
    · rw [upI_at, if_neg (by omega), upI_at, if_neg (by omega), upI_at, if_pos ⟨rfl, rfl⟩]
    · rw [upI_at, if_neg (by omega), upI_at, if_pos ⟨rfl, rfl⟩, et]
    · rw [upI_at, if_pos ⟨rfl, rfl⟩, ec]
  · refine Ok.ifF (by rw [hB.1]; exact nI_nlt (by omega) (by omega)) ?_
    rw [if_neg c]
    exact Ok.ret ⟨Df.refl _ _, hB⟩
/-- the things of one saying -/
theorem r_things {F : FT2} {h p : Nat} {f : Nat → Nat × Nat} {S0 S1 : ST} {cont : ST → Option (Int32 × ST ⊕ ST)} {R : Int32 × ST ⊕ ST → Prop} (hR : RRep W sd S0) (hW : WF W) (hn : 30000 ≤ n) (hD : S0.1 95 61 = 0) (hK : ∀ j, j ≤ h + 1 → KRow S0 (W 0 1) j (fun p t => decide (F p t ≤ j))) (hp : p < W 0 1) (hg0 : 0 < W 0 0) (hh : h < 24) (hs : wSpk W V p h = true) (d1 : Df XTl S0 S1) (hf : ∀ t, t < W 0 2 → f (t + 1) = if (f t).1 < wChG W V F h p t then (wChG W V F h p t, t) else f t) (hfb : ∀ t, (f t).1 ≤ 1200) (hB : BstR W V h p (f 0) S1) (hc : ∀ S', Df XTl S0 S' → BstR W V h p (f (W 0 2)) S' → Ok (cont S') R) :
    Ok ((iter (fun (s11 : Int32 × ST) => (E_X12_has n s11.2 (2 : Int32)).bind fun v12 => if v12 ≤ s11.1 then some (.inr s11.2) else (E_X12_knowsIt n s11.2 (nI p) (nI h) s11.1).bind fun v14 => jn (fun (S15 : ST) => some (.inl ((s11.1 + (1 : Int32)), S15))) fun j16 => if v14 = 0 then j16 s11.2 else (E_X12_earshotOf n s11.2 (nI (wPl W p h)) (nI h)).bind fun v18 => (E_X12_offers n s11.2 v18 (nI h) s11.1 (1 : Int32)).bind fun S20 => j16 S20) n ((0 : Int32), S1)).bind fun (e11 : ST) => cont e11) R := by
  have hm1 : W 0 1 ≤ 10 := hW.mx (k := 1) (by decide)
  have hm0 : W 0 0 ≤ 6 := hW.mx (k := 0) (by decide)
  have hm2 : W 0 2 ≤ 6 := hW.mx (k := 2) (by decide)
  have hpl := wPl_lt hW hg0 p h
  refine bindL (fun t q => q.1 = nI t ∧ Df XTl S0 q.2 ∧ BstR W V h p (f t) q.2) (fun S' => Df XTl S0 S' ∧ BstR W V h p (f (W 0 2)) S') 0 (W 0 2) (Nat.zero_le _) (by omega) ⟨rfl, d1, hB⟩ ?_ ?_ (fun S' h => hc S' h.1 h.2)
  · rintro t ⟨y, S2⟩ _ ht ⟨rfl, d2, hB2⟩
    dsimp only at d2 hB2 ⊢
    have hR2 : RRep W sd S2 := hR.df d2 (fun a j hx => nx_Tl (by omega))
    have hK2 : ∀ j, j ≤ h + 1 → KRow S2 (W 0 1) j (fun p t => decide (F p t ≤ j)) := fun j hj => (hK j hj).df d2 (fun j => rfl)
    have eD : bt (S2.1 95 61) = nD := by rw [d2.2 _ _ rfl, hD, bt0]
    have eT : wChT W t = t := by rw [wChT, if_pos ht]
    apply Ok.step (r_h2 hR2)
    refine Ok.ifF (by simp (disch := omega) only [↓reduceIte, Option.bind_some, jn, lets, Sum.elim_inl, Sum.elim_inr, if_true, if_false, rd_nI, wr_nI, rd_z, rd_o, wr_z, wr_o, nI_1, nI_add, pk_mul, nI_leI, nI_ltI, nI_eq, z_le, le_z, z_lt, lt_z, eq_z, eq_o, le_o, o_le, lt_o, o_lt, eq_m1, eq_m2, m1_eq, m2_eq, m1_lt, m1_le, o_z, z_o, m1_z, m1_o, m2_z, m2_o, m2_m1, z_lz, z_lo, o_lz, o_ez, z_ez, z_eo, m2_lt, m2_le, leF, leT, ltF, ltT, eqF, eqT, bI_z, bI_o, sh1, sh0, not_true_eq_false, not_false_eq_true, ne_eq, Bool.true_eq_false, Bool.false_eq_true, true_and, and_true, false_and, and_false, l_2, l_3, l_4, l_5, l_6, l_7, l_8, l_9, l_10, l_11, l_12, l_13, l_14, l_15, l_16, l_17, l_18, l_19, l_20, l_21, l_22, l_23, l_24, l_25, l_26, l_27, l_28, l_29, l_30, l_32, l_33, l_34, l_35, l_36, l_37, l_38, l_39, l_50, l_60, l_99, l_100, l_150, l_160, l_240, l_250, l_300, l_400, l_402, l_403, l_420, l_500, l_600, l_840, l_1000, l_1024, l_2000, l_2047, l_2048, l_10000, l_25600, l_500000]) ?_
    apply Ok.step (r_knowsIt (hK2 h (by omega)) hm1 hp (by omega) (by omega))
    apply Ok.jnU
    have hv : wChG W V F h p t = if F p t ≤ h then wGn W F h t (wChP W V h p t) (W 0 6) else 0 := by rw [wChG, wGain_eq, eT]
    by_cases c : F p t ≤ h
    · rw [decide_eq_true c]
      refine Ok.ifF (by decide) ?_
      have hes := r_earshotOf (x := wPl W p h) hR2 hW hn (by omega) (h := h) (by omega)
      rw [eD] at hes
      apply Ok.step hes
      obtain ⟨S3, e3, d3, hB3⟩ := r_offers (V := V) (F := F) (j := t) (cst := 1) hR2 hW hn (hK2 (h + 1) (Nat.le_refl _)) ht hh hB2 (hfb t) (bs_congr (fun q _ => by rw [wChP, if_pos ht, hs, Bool.true_and])) eT (by rw [wChC, if_pos ht]; rfl)
      apply Ok.step e3
      refine Ok.inl ⟨nI_1 _, d2.trans d3, ?_⟩
      rw [hf t ht, hv, if_pos c]
      exact hB3
    · rw [decide_eq_false c]
      refine Ok.ifT rfl (Ok.inl ⟨nI_1 _, d2, ?_⟩)
      rw [hf t ht, hv, if_neg c, if_neg (Nat.not_lt_zero _)]
      exact hB2
  · rintro ⟨y, S2⟩ ⟨rfl, d2, hB2⟩
    dsimp only at d2 hB2 ⊢
    have hR2 : RRep W sd S2 := hR.df d2 (fun a j hx => nx_Tl (by omega))
    apply Ok.step (r_h2 hR2)
    exact Ok.ifT (by simp (disch := omega) only [↓reduceIte, Option.bind_some, jn, lets, Sum.elim_inl, Sum.elim_inr, if_true, if_false, rd_nI, wr_nI, rd_z, rd_o, wr_z, wr_o, nI_1, nI_add, pk_mul, nI_leI, nI_ltI, nI_eq, z_le, le_z, z_lt, lt_z, eq_z, eq_o, le_o, o_le, lt_o, o_lt, eq_m1, eq_m2, m1_eq, m2_eq, m1_lt, m1_le, o_z, z_o, m1_z, m1_o, m2_z, m2_o, m2_m1, z_lz, z_lo, o_lz, o_ez, z_ez, z_eo, m2_lt, m2_le, leF, leT, ltF, ltT, eqF, eqT, bI_z, bI_o, sh1, sh0, not_true_eq_false, not_false_eq_true, ne_eq, Bool.true_eq_false, Bool.false_eq_true, true_and, and_true, false_and, and_false, l_2, l_3, l_4, l_5, l_6, l_7, l_8, l_9, l_10, l_11, l_12, l_13, l_14, l_15, l_16, l_17, l_18, l_19, l_20, l_21, l_22, l_23, l_24, l_25, l_26, l_27, l_28, l_29, l_30, l_32, l_33, l_34, l_35, l_36, l_37, l_38, l_39, l_50, l_60, l_99, l_100, l_150, l_160, l_240, l_250, l_300, l_400, l_402, l_403, l_420, l_500, l_600, l_840, l_1000, l_1024, l_2000, l_2047, l_2048, l_10000, l_25600, l_500000]) (Ok.inr ⟨d2, hB2⟩)
theorem wGn_none {F : FT2} {h t : Nat} : ∀ i, wGn W F h t (fun _ => false) i = 0 := by
  intro i
  induction i with
  | zero => rfl
  | succ i ih =>
    rw [wGn] at ih ⊢
    rw [sumN, ih]
    simp
theorem wBest_low {F : FT2} {h p : Nat} (hs : wSpk W V p h = false) : wBest (wChG W V F h p) (W 0 2) = (0, 0) := by
  apply wBest_zero
  intro j hj
  have : wChP W V h p j = fun _ => false := by
    funext q
    rw [wChP, if_pos hj, hs]; rfl
  rw [wChG, wGain_eq, this, wGn_none]
  split <;> rfl
end RU2
