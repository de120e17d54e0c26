/-! ===== the cheapest way, by the reference: the options ===== -/
def Lb (W : VW) (V : VL) (t h b : Nat) : List Nat := (List.range b).filter (fun c => decide (vC W V t h c))
def OptR (W : VW) (h : Nat) (L : List Nat) (S : ST) : Prop := S.1 95 76 = nI L.length ∧ ∀ i c, L[i]? = some c → S.1 150 i = nI (if c < 1000 then 0 else 1) ∧ S.1 151 i = nI (pC c) ∧ S.1 152 i = nI (c % 20) ∧ S.1 153 i = nI (sC W h c)
def XOp (a j : Nat) : Bool := XM a j || (decide (150 ≤ a ∧ a ≤ 153) || (a == 95 && j == 76))
theorem Lb_s {W : VW} {V : VL} {t h b : Nat} : Lb W V t h (b + 1) = Lb W V t h b ++ (if vC W V t h b then [b] else []) := by
  unfold Lb
  rw [List.range_succ, List.filter_append]
  congr 1
  by_cases c : vC W V t h b
  · simp [c]
  · simp [c]
theorem Lb_skip {W : VW} {V : VL} {t h b : Nat} : ∀ k, (∀ c, b ≤ c → c < b + k → ¬ vC W V t h c) → Lb W V t h (b + k) = Lb W V t h b := by
  intro k
  induction k with
  | zero => intro _; rfl
  | succ k ih =>
    intro hk
    rw [← Nat.add_assoc, Lb_s, if_neg (hk _ (by omega) (by omega)), ih (fun c h1 h2 => hk c h1 (by omega)), List.append_nil]
section OPT
variable {W : VW} {V : VL} {tw en sd : Nat} {P : PL} {N : Nat} {H : HL} {n : Nat} {S : ST}
theorem nx_Op {a j : Nat} (h : a ≠ 137 ∧ a ≠ 138 ∧ (a < 150 ∨ 153 < a) ∧ (a ≠ 95 ∨ (j ≠ 60 ∧ j ≠ 76))) : XOp a j = false := by
  simp only [XOp, XM, Bool.or_eq_false_iff, Bool.and_eq_false_iff, beq_eq_false_iff_ne, decide_eq_false_iff_not]
  omega
theorem XM_XOp {S S' : ST} (h : Df XM S S') : Df XOp S S' := h.mono (fun a j hx => by
  simp only [XOp, Bool.or_eq_false_iff] at hx
  exact hx.1)
theorem OptR.df {h : Nat} {L : List Nat} {X : Nat → Nat → Bool} {S S' : ST} (hO : OptR W h L S) (d : Df X S S') (hx : ∀ a j, (150 ≤ a ∧ a ≤ 153) ∨ (a = 95 ∧ j = 76) → X a j = false) : OptR W h L S' := by
  refine ⟨by rw [d.2 _ _ (hx _ _ (by omega))]; exact hO.1, fun i c hc => ?_⟩
  obtain ⟨h1, h2, h3, h4⟩ := hO.2 i c hc
  exact ⟨by rw [d.2 _ _ (hx _ _ (by omega))]; exact h1, by rw [d.2 _ _ (hx _ _ (by omega))]; exact h2, by rw [d.2 _ _ (hx _ _ (by omega))]; exact h3, by rw [d.2 _ _ (hx _ _ (by omega))]; exact h4⟩
theorem r_option {h c : Nat} {L : List Nat} {k p r x : Int32} (hO : OptR W h L S) (hl : L.length < 160) (ek : k = nI (if c < 1000 then 0 else 1)) (ep : p = nI (pC c)) (er : r = nI (c % 20)) (ex : x = nI (sC W h c)) : Ok (E_X12_option n S k p r x) (fun S' => Df XOp S S' ∧ OptR W h (L ++ [c]) S') := by
  subst ep er ex
  unfold E_X12_option
  have e0 := hO.1
  rw [e0]
  apply Ok.step (wr_nI hl (by decide))
  apply Ok.step (x := upI (upI S 150 L.length k) 151 L.length (nI (pC c))) (by rw [upI_at, if_neg (by omega), e0, wr_nI hl (by decide)])
  apply Ok.step (x := upI (upI (upI S 150 L.length k) 151 L.length (nI (pC c))) 152 L.length (nI (c % 20))) (by rw [upI_at, if_neg (by omega), upI_at, if_neg (by omega), e0, wr_nI hl (by decide)])
  apply Ok.step (x := upI (upI (upI (upI S 150 L.length k) 151 L.length (nI (pC c))) 152 L.length (nI (c % 20))) 153 L.length (nI (sC W h c))) (by rw [upI_at, if_neg (by omega), upI_at, if_neg (by omega), upI_at, if_neg (by omega), e0, wr_nI hl (by decide)])
  apply Ok.letsU
  refine Ok.ret ⟨(((((Df.refl _ _).up rfl).up rfl).up rfl).up rfl).up rfl, ?_, ?_⟩
  · rw [upI_at, if_pos ⟨rfl, rfl⟩, upI_at, if_neg (by omega), upI_at, if_neg (by omega), upI_at, if_neg (by omega), upI_at, if_neg (by omega), e0, nI_1, List.length_append]; rfl
  · intro i c' hc
    simp only [upI_at]
    by_cases e : i = L.length
    · subst e
      rw [List.getElem?_append_right (Nat.le_refl _), Nat.sub_self] at hc
      have : c = c' := by simpa using hc
      subst this
      simp [ek]
    · have hi : i < L.length := by
        have : i < (L ++ [c]).length := by
          rw [List.getElem?_eq_some_iff] at hc
          exact hc.1
        rw [List.length_append] at this
        have : i < L.length + 1 := this
        omega
      rw [List.getElem?_append_left hi] at hc
      obtain ⟨h1, h2, h3, h4⟩ := hO.2 i c' hc
      simp [e, h1, h2, h3, h4]
theorem r_optionsAt {t h : Nat} (hR : RRep W sd S) (hL : RLw V W sd S) (hW : WF W) (hn : 30000 ≤ n) (hD : S.1 95 61 = 0) (hh : h < 24) (ht : t < 6) : Ok (E_X12_optionsAt n S (nI h) (nI t)) (fun S' => Df XOp S S' ∧ OptR W h (Lb W V t h 2000) S' ∧ (Lb W V t h 2000).length ≤ 160) := by
  have hm1 : W 0 1 ≤ 10 := hW.mx (k := 1) (by decide)
  have hm0 : W 0 0 ≤ 6 := hW.mx (k := 0) (by decide)
  have hm2 : W 0 2 ≤ 6 := hW.mx (k := 2) (by decide)
  have hm7 : W 0 7 ≤ 6 := hW.mx (k := 7) (by decide)
  have hsd := hR.1
  have RR : ∀ {S'}, Df XOp S S' → RRep W sd S' := fun d => hR.df d (fun a j hx => nx_Op (by omega))
  have RL : ∀ {S'}, Df XOp S S' → RLw V W sd S' := fun d => hL.df d (fun a j hx => nx_Op (by simp only [lawC, decide_eq_true_eq] at hx; omega))
  have RD : ∀ {S'}, Df XOp S S' → bt (S'.1 95 61) = nD := fun d => by rw [d.2 _ _ rfl, hD, bt0]
  unfold E_X12_optionsAt
  apply Ok.letsU
  generalize hS1 : upI S 95 76 0 = S1
  have d1 : Df XOp S S1 := by rw [← hS1]; exact (Df.refl _ _).up rfl
  have o1 : OptR W h (Lb W V t h 0) S1 := ⟨by rw [← hS1, upI_at, if_pos ⟨rfl, rfl⟩]; rfl, fun i c hc => by cases hc⟩
  refine bindL (fun p q => q.1 = nI p ∧ Df XOp S q.2 ∧ OptR W h (Lb W V t h (20 * p)) q.2 ∧ (Lb W V t h (20 * p)).length ≤ 10 * p) (fun S' => Df XOp S S' ∧ OptR W h (Lb W V t h 1000) S' ∧ (Lb W V t h 1000).length ≤ 100) 0 (W 0 1) (Nat.zero_le _) (by omega) ⟨rfl, d1, o1, Nat.le_refl _⟩ ?_ ?_ ?_
  · rintro p ⟨y, S2⟩ _ hp ⟨rfl, d2, o2, l2⟩
    dsimp only at d2 o2 ⊢
    apply Ok.step (r_h1 (RR d2))
    refine Ok.ifF (by simp (disch := omega) only [↓reduceIte, Option.bind_some, jn, lets, Sum.elim_inl, Sum.elim_inr, if_true, if_false, rd_nI, wr_nI, rd_z, rd_o, wr_z, wr_o, nI_1, nI_add, pk_mul, nI_leI, nI_ltI, nI_eq, z_le, le_z, z_lt, lt_z, eq_z, eq_o, le_o, o_le, lt_o, o_lt, eq_m1, eq_m2, m1_eq, m2_eq, m1_lt, m1_le, o_z, z_o, m1_z, m1_o, m2_z, m2_o, m2_m1, z_lz, z_lo, o_lz, o_ez, z_ez, z_eo, m2_lt, m2_le, leF, leT, ltF, ltT, eqF, eqT, bI_z, bI_o, sh1, sh0, not_true_eq_false, not_false_eq_true, ne_eq, Bool.true_eq_false, Bool.false_eq_true, true_and, and_true, false_and, and_false, l_2, l_3, l_4, l_5, l_6, l_7, l_8, l_9, l_10, l_11, l_12, l_13, l_14, l_15, l_16, l_17, l_18, l_19, l_20, l_21, l_22, l_23, l_24, l_25, l_26, l_27, l_28, l_29, l_30, l_32, l_33, l_34, l_35, l_36, l_37, l_38, l_39, l_50, l_60, l_99, l_100, l_150, l_160, l_240, l_250, l_300, l_400, l_402, l_403, l_420, l_500, l_600, l_840, l_1000, l_1024, l_2000, l_2047, l_2048, l_10000, l_25600, l_500000]) ?_
    refine bindL (fun o q => q.1 = nI o ∧ Df XOp S q.2 ∧ OptR W h (Lb W V t h (20 * p + o)) q.2 ∧ (Lb W V t h (20 * p + o)).length ≤ 10 * p + o) (fun S' => Df XOp S S' ∧ OptR W h (Lb W V t h (20 * (p + 1))) S' ∧ (Lb W V t h (20 * (p + 1))).length ≤ 10 * (p + 1)) 0 (W 0 1) (Nat.zero_le _) (by omega) ⟨rfl, d2, o2, l2⟩ ?_ ?_ (fun S' z => Ok.inl ⟨nI_1 _, z⟩)
    · rintro o ⟨y, S3⟩ _ ho ⟨rfl, d3, o3, l3⟩
      dsimp only at d3 o3 ⊢
      have hR3 := RR d3
      apply Ok.step (r_h1 hR3)
      refine Ok.ifF (by simp (disch := omega) only [↓reduceIte, Option.bind_some, jn, lets, Sum.elim_inl, Sum.elim_inr, if_true, if_false, rd_nI, wr_nI, rd_z, rd_o, wr_z, wr_o, nI_1, nI_add, pk_mul, nI_leI, nI_ltI, nI_eq, z_le, le_z, z_lt, lt_z, eq_z, eq_o, le_o, o_le, lt_o, o_lt, eq_m1, eq_m2, m1_eq, m2_eq, m1_lt, m1_le, o_z, z_o, m1_z, m1_o, m2_z, m2_o, m2_m1, z_lz, z_lo, o_lz, o_ez, z_ez, z_eo, m2_lt, m2_le, leF, leT, ltF, ltT, eqF, eqT, bI_z, bI_o, sh1, sh0, not_true_eq_false, not_false_eq_true, ne_eq, Bool.true_eq_false, Bool.false_eq_true, true_and, and_true, false_and, and_false, l_2, l_3, l_4, l_5, l_6, l_7, l_8, l_9, l_10, l_11, l_12, l_13, l_14, l_15, l_16, l_17, l_18, l_19, l_20, l_21, l_22, l_23, l_24, l_25, l_26, l_27, l_28, l_29, l_30, l_32, l_33, l_34, l_35, l_36, l_37, l_38, l_39, l_50, l_60, l_99, l_100, l_150, l_160, l_240, l_250, l_300, l_400, l_402, l_403, l_420, l_500, l_600, l_840, l_1000, l_1024, l_2000, l_2047, l_2048, l_10000, l_25600, l_500000]) ?_
      obtain ⟨⟨v, S4⟩, e4, h4, d4⟩ := r_may0 hR3 hW (RL d3) hn hp ho (h := h) (by omega)
      dsimp only at h4 d4
      rw [RD d3] at h4
      have h5 : v = bI (wMay W V nD p o h 0) := h4
      subst h5
      apply Ok.step e4
      apply Ok.jnU
      have d34 := d3.trans (XM_XOp d4)
      have o4 : OptR W h (Lb W V t h (20 * p + o)) S4 := o3.df d4 (fun a j hx => by
        simp only [XM, Bool.or_eq_false_iff, Bool.and_eq_false_iff, beq_eq_false_iff_ne]
        omega)
      have hR4 := RR d34
      have a1 : (20 * p + o) / 20 = p := by omega
      have a2 : (20 * p + o) % 20 = o := by omega
      have a3 : pC (20 * p + o) = p := by unfold pC; omega
      have a4 : 20 * p + o < 1000 := by omega
      by_cases cm : wMay W V nD p o h 0 = true
      case neg =>
        have nv : ¬ vC W V t h (20 * p + o) := by
          rintro ⟨_, ⟨_, _, _, z⟩ | ⟨z, _⟩⟩
          · rw [a1, a2] at z; exact cm z
          · omega
        simp only [Bool.not_eq_true] at cm
        rw [cm]
        refine Ok.ifT rfl (Ok.inl ⟨nI_1 _, d34, ?_⟩)
        dsimp only
        rw [← Nat.add_assoc, Lb_s, if_neg nv, List.append_nil]
        exact ⟨o4, by omega⟩
      rw [cm]
      refine Ok.ifF (show ¬ bI true = 0 by decide) ?_
      have g0 : 0 < W 0 0 := Classical.byContradiction fun z => by
        rw [noland_may z] at cm; cases cm
      have hv : vC W V t h (20 * p + o) := ⟨g0, Or.inl ⟨a4, by omega, by omega, by rw [a1, a2]; exact cm⟩⟩
      have hon : wOn W nD p = true := by simp [wOn, nD, g0]
      have hlt := wPl_lt hW g0 p h
      have hpl := r_placeOf hR4 hW hn hp (h := h) (by omega)
      rw [RD d34, if_pos hon] at hpl
      apply Ok.step hpl
      have hes := r_earshotOf (x := wPl W p h) hR4 hW hn (by omega) (h := h) (by omega)
      rw [RD d34] at hes
      apply Ok.step hes
      obtain ⟨S5, e5, d5, o5⟩ := r_option (n := n) (h := h) (c := 20 * p + o) (k := 0) (p := nI p) (r := nI o) (x := bs (wHear W nD (wPl W p h) h) (W 0 1)) o4 (by omega) (by rw [if_pos a4]; rfl) (by rw [a3]) (by rw [a2]) (by unfold sC; rw [if_pos a4, a3, bs_nI _ (by omega)]; rfl)
      apply Ok.step e5
      refine Ok.inl ⟨nI_1 _, d34.trans d5, ?_⟩
      dsimp only
      rw [← Nat.add_assoc, Lb_s, if_pos hv]
      exact ⟨o5, by rw [List.length_append]; show _ + 1 ≤ _; omega⟩
    · rintro ⟨y, S3⟩ ⟨rfl, d3, o3, l3⟩
      dsimp only at d3 o3 ⊢
      apply Ok.step (r_h1 (RR d3))
      refine Ok.ifT (by simp (disch := omega) only [↓reduceIte, Option.bind_some, jn, lets, Sum.elim_inl, Sum.elim_inr, if_true, if_false, rd_nI, wr_nI, rd_z, rd_o, wr_z, wr_o, nI_1, nI_add, pk_mul, nI_leI, nI_ltI, nI_eq, z_le, le_z, z_lt, lt_z, eq_z, eq_o, le_o, o_le, lt_o, o_lt, eq_m1, eq_m2, m1_eq, m2_eq, m1_lt, m1_le, o_z, z_o, m1_z, m1_o, m2_z, m2_o, m2_m1, z_lz, z_lo, o_lz, o_ez, z_ez, z_eo, m2_lt, m2_le, leF, leT, ltF, ltT, eqF, eqT, bI_z, bI_o, sh1, sh0, not_true_eq_false, not_false_eq_true, ne_eq, Bool.true_eq_false, Bool.false_eq_true, true_and, and_true, false_and, and_false, l_2, l_3, l_4, l_5, l_6, l_7, l_8, l_9, l_10, l_11, l_12, l_13, l_14, l_15, l_16, l_17, l_18, l_19, l_20, l_21, l_22, l_23, l_24, l_25, l_26, l_27, l_28, l_29, l_30, l_32, l_33, l_34, l_35, l_36, l_37, l_38, l_39, l_50, l_60, l_99, l_100, l_150, l_160, l_240, l_250, l_300, l_400, l_402, l_403, l_420, l_500, l_600, l_840, l_1000, l_1024, l_2000, l_2047, l_2048, l_10000, l_25600, l_500000]) (Ok.inr ⟨d3, ?_⟩)
      have es : Lb W V t h (20 * (p + 1)) = Lb W V t h (20 * p + W 0 1) := by
        rw [show 20 * (p + 1) = (20 * p + W 0 1) + (20 - W 0 1) by omega]
        refine Lb_skip _ (fun c c1 c2 => ?_)
        rintro ⟨_, ⟨_, _, z, _⟩ | ⟨z, _⟩⟩
        · omega
        · omega
      rw [es]
      exact ⟨o3, by omega⟩
  · rintro ⟨y, S2⟩ ⟨rfl, d2, o2, l2⟩
    dsimp only at d2 o2 ⊢
    apply Ok.step (r_h1 (RR d2))
    refine Ok.ifT (by simp (disch := omega) only [↓reduceIte, Option.bind_some, jn, lets, Sum.elim_inl, Sum.elim_inr, if_true, if_false, rd_nI, wr_nI, rd_z, rd_o, wr_z, wr_o, nI_1, nI_add, pk_mul, nI_leI, nI_ltI, nI_eq, z_le, le_z, z_lt, lt_z, eq_z, eq_o, le_o, o_le, lt_o, o_lt, eq_m1, eq_m2, m1_eq, m2_eq, m1_lt, m1_le, o_z, z_o, m1_z, m1_o, m2_z, m2_o, m2_m1, z_lz, z_lo, o_lz, o_ez, z_ez, z_eo, m2_lt, m2_le, leF, leT, ltF, ltT, eqF, eqT, bI_z, bI_o, sh1, sh0, not_true_eq_false, not_false_eq_true, ne_eq, Bool.true_eq_false, Bool.false_eq_true, true_and, and_true, false_and, and_false, l_2, l_3, l_4, l_5, l_6, l_7, l_8, l_9, l_10, l_11, l_12, l_13, l_14, l_15, l_16, l_17, l_18, l_19, l_20, l_21, l_22, l_23, l_24, l_25, l_26, l_27, l_28, l_29, l_30, l_32, l_33, l_34, l_35, l_36, l_37, l_38, l_39, l_50, l_60, l_99, l_100, l_150, l_160, l_240, l_250, l_300, l_400, l_402, l_403, l_420, l_500, l_600, l_840, l_1000, l_1024, l_2000, l_2047, l_2048, l_10000, l_25600, l_500000]) (Ok.inr ⟨d2, ?_⟩)
    have es : Lb W V t h 1000 = Lb W V t h (20 * W 0 1) := by
      rw [show 1000 = 20 * W 0 1 + (1000 - 20 * W 0 1) by omega]
      refine Lb_skip _ (fun c c1 c2 => ?_)
      rintro ⟨_, ⟨_, z, _, _⟩ | ⟨z, _⟩⟩
      · omega
      · omega
    rw [es]
    exact ⟨o2, by omega⟩
  rintro S2 ⟨d2, o2, l2⟩
  refine bindL (fun p q => q.1 = nI p ∧ Df XOp S q.2 ∧ OptR W h (Lb W V t h (1000 + 20 * p)) q.2 ∧ (Lb W V t h (1000 + 20 * p)).length ≤ 100 + 6 * p) (fun S' => Df XOp S S' ∧ OptR W h (Lb W V t h 2000) S' ∧ (Lb W V t h 2000).length ≤ 160) 0 (W 0 1) (Nat.zero_le _) (by omega) ⟨rfl, d2, o2, l2⟩ ?_ ?_ (fun S' z => Ok.ret z)
  · rintro p ⟨y, S3⟩ _ hp ⟨rfl, d3, o3, l3⟩
    dsimp only at d3 o3 ⊢
    apply Ok.step (r_h1 (RR d3))
    refine Ok.ifF (by simp (disch := omega) only [↓reduceIte, Option.bind_some, jn, lets, Sum.elim_inl, Sum.elim_inr, if_true, if_false, rd_nI, wr_nI, rd_z, rd_o, wr_z, wr_o, nI_1, nI_add, pk_mul, nI_leI, nI_ltI, nI_eq, z_le, le_z, z_lt, lt_z, eq_z, eq_o, le_o, o_le, lt_o, o_lt, eq_m1, eq_m2, m1_eq, m2_eq, m1_lt, m1_le, o_z, z_o, m1_z, m1_o, m2_z, m2_o, m2_m1, z_lz, z_lo, o_lz, o_ez, z_ez, z_eo, m2_lt, m2_le, leF, leT, ltF, ltT, eqF, eqT, bI_z, bI_o, sh1, sh0, not_true_eq_false, not_false_eq_true, ne_eq, Bool.true_eq_false, Bool.false_eq_true, true_and, and_true, false_and, and_false, l_2, l_3, l_4, l_5, l_6, l_7, l_8, l_9, l_10, l_11, l_12, l_13, l_14, l_15, l_16, l_17, l_18, l_19, l_20, l_21, l_22, l_23, l_24, l_25, l_26, l_27, l_28, l_29, l_30, l_32, l_33, l_34, l_35, l_36, l_37, l_38, l_39, l_50, l_60, l_99, l_100, l_150, l_160, l_240, l_250, l_300, l_400, l_402, l_403, l_420, l_500, l_600, l_840, l_1000, l_1024, l_2000, l_2047, l_2048, l_10000, l_25600, l_500000]) ?_
    refine bindL (fun a q => q.1 = nI a ∧ Df XOp S q.2 ∧ OptR W h (Lb W V t h (1000 + 20 * p + a)) q.2 ∧ (Lb W V t h (1000 + 20 * p + a)).length ≤ 100 + 6 * p + a) (fun S' => Df XOp S S' ∧ OptR W h (Lb W V t h (1000 + 20 * (p + 1))) S' ∧ (Lb W V t h (1000 + 20 * (p + 1))).length ≤ 100 + 6 * (p + 1)) 0 (W 0 7) (Nat.zero_le _) (by omega) ⟨rfl, d3, o3, l3⟩ ?_ ?_ (fun S' z => Ok.inl ⟨nI_1 _, z⟩)
    · rintro a ⟨y, S4⟩ _ ha ⟨rfl, d4, o4, l4⟩
      dsimp only at d4 o4 ⊢
      have hR4 := RR d4
      have hta := hW.2.2.2.2.2.2.2.1 a ha
      have b1 : (1000 + 20 * p + a - 1000) / 20 = p := by omega
      have b2 : (1000 + 20 * p + a - 1000) % 20 = a := by omega
      have b3 : pC (1000 + 20 * p + a) = p := by unfold pC; omega
      have b4 : ¬ 1000 + 20 * p + a < 1000 := by omega
      have b5 : (1000 + 20 * p + a) % 20 = a := by omega
      apply Ok.step (r_h7 hR4)
      refine Ok.ifF (by simp (disch := omega) only [↓reduceIte, Option.bind_some, jn, lets, Sum.elim_inl, Sum.elim_inr, if_true, if_false, rd_nI, wr_nI, rd_z, rd_o, wr_z, wr_o, nI_1, nI_add, pk_mul, nI_leI, nI_ltI, nI_eq, z_le, le_z, z_lt, lt_z, eq_z, eq_o, le_o, o_le, lt_o, o_lt, eq_m1, eq_m2, m1_eq, m2_eq, m1_lt, m1_le, o_z, z_o, m1_z, m1_o, m2_z, m2_o, m2_m1, z_lz, z_lo, o_lz, o_ez, z_ez, z_eo, m2_lt, m2_le, leF, leT, ltF, ltT, eqF, eqT, bI_z, bI_o, sh1, sh0, not_true_eq_false, not_false_eq_true, ne_eq, Bool.true_eq_false, Bool.false_eq_true, true_and, and_true, false_and, and_false, l_2, l_3, l_4, l_5, l_6, l_7, l_8, l_9, l_10, l_11, l_12, l_13, l_14, l_15, l_16, l_17, l_18, l_19, l_20, l_21, l_22, l_23, l_24, l_25, l_26, l_27, l_28, l_29, l_30, l_32, l_33, l_34, l_35, l_36, l_37, l_38, l_39, l_50, l_60, l_99, l_100, l_150, l_160, l_240, l_250, l_300, l_400, l_402, l_403, l_420, l_500, l_600, l_840, l_1000, l_1024, l_2000, l_2047, l_2048, l_10000, l_25600, l_500000]) ?_
      apply Ok.step (x := nI (W 15 a)) (by simp (disch := omega) only [↓reduceIte, Option.bind_some, jn, lets, Sum.elim_inl, Sum.elim_inr, if_true, if_false, rd_nI, wr_nI, rd_z, rd_o, wr_z, wr_o, nI_1, nI_add, pk_mul, nI_leI, nI_ltI, nI_eq, z_le, le_z, z_lt, lt_z, eq_z, eq_o, le_o, o_le, lt_o, o_lt, eq_m1, eq_m2, m1_eq, m2_eq, m1_lt, m1_le, o_z, z_o, m1_z, m1_o, m2_z, m2_o, m2_m1, z_lz, z_lo, o_lz, o_ez, z_ez, z_eo, m2_lt, m2_le, leF, leT, ltF, ltT, eqF, eqT, bI_z, bI_o, sh1, sh0, not_true_eq_false, not_false_eq_true, ne_eq, Bool.true_eq_false, Bool.false_eq_true, true_and, and_true, false_and, and_false, l_2, l_3, l_4, l_5, l_6, l_7, l_8, l_9, l_10, l_11, l_12, l_13, l_14, l_15, l_16, l_17, l_18, l_19, l_20, l_21, l_22, l_23, l_24, l_25, l_26, l_27, l_28, l_29, l_30, l_32, l_33, l_34, l_35, l_36, l_37, l_38, l_39, l_50, l_60, l_99, l_100, l_150, l_160, l_240, l_250, l_300, l_400, l_402, l_403, l_420, l_500, l_600, l_840, l_1000, l_1024, l_2000, l_2047, l_2048, l_10000, l_25600, l_500000, t_sd hR4, t_122 hR4])
      apply Ok.jnU
      have stay : ¬ vC W V t h (1000 + 20 * p + a) → Ok (some (Sum.inl (nI a + 1, S4) : Int32 × ST ⊕ ST)) (Sum.elim (fun q => q.1 = nI (a + 1) ∧ Df XOp S q.2 ∧ OptR W h (Lb W V t h (1000 + 20 * p + (a + 1))) q.2 ∧ (Lb W V t h (1000 + 20 * p + (a + 1))).length ≤ 100 + 6 * p + (a + 1)) (fun S' => Df XOp S S' ∧ OptR W h (Lb W V t h (1000 + 20 * (p + 1))) S' ∧ (Lb W V t h (1000 + 20 * (p + 1))).length ≤ 100 + 6 * (p + 1))) := fun nv => by
        refine Ok.inl ⟨nI_1 _, d4, ?_⟩
        rw [← Nat.add_assoc, Lb_s, if_neg nv, List.append_nil]
        exact ⟨o4, by omega⟩
      by_cases c1 : W 15 a = t
      case neg =>
        refine Ok.ifF (fun z => c1 ((nI_eq (by omega) (by omega)).mp z)) (stay ?_)
        rintro ⟨_, ⟨z, _⟩ | ⟨_, _, _, _, z⟩⟩
        · omega
        · rw [b2] at z; exact c1 z
      refine Ok.ifT (by rw [c1]) ?_
      have hpl := r_placeOf hR4 hW hn hp (h := h) (by omega)
      rw [RD d4] at hpl
      apply Ok.step hpl
      by_cases g0 : 0 < W 0 0
      case neg =>
        have c : ¬ wOn W nD p = true := by simp [wOn, nD]; omega
        rw [if_neg c]
        exact Ok.ifF (by decide) (stay (fun z => g0 z.1))
      have hon : wOn W nD p = true := by simp [wOn, nD, g0]
      have hlt := wPl_lt hW g0 p h
      rw [if_pos hon] at hpl ⊢
      refine Ok.ifT (nI_pos' (by omega)) ?_
      apply Ok.step hpl
      have hcr := r_crowdAt (x := wPl W p h) hR4 hW hn (by omega) (h := h) (by omega)
      rw [RD d4] at hcr
      apply Ok.step hcr
      have hv : vC W V t h (1000 + 20 * p + a) := ⟨g0, Or.inr ⟨by omega, by omega, by omega, by omega, by rw [b2]; exact c1⟩⟩
      obtain ⟨S5, e5, d5, o5⟩ := r_option (n := n) (h := h) (c := 1000 + 20 * p + a) (k := 1) (p := nI p) (r := nI a) (x := bs (wStand W nD (wPl W p h) h) (W 0 1)) o4 (by omega) (by rw [if_neg b4]; rfl) (by rw [b3]) (by rw [b5]) (by unfold sC; rw [if_neg b4, b3, bs_nI _ (by omega)]; rfl)
      apply Ok.step e5
      refine Ok.inl ⟨nI_1 _, d4.trans d5, ?_⟩
      dsimp only
      rw [← Nat.add_assoc, Lb_s, if_pos hv]
      exact ⟨o5, by rw [List.length_append]; show _ + 1 ≤ _; omega⟩
    · rintro ⟨y, S4⟩ ⟨rfl, d4, o4, l4⟩
      dsimp only at d4 o4 ⊢
      apply Ok.step (r_h7 (RR d4))
      refine Ok.ifT (by simp (disch := omega) only [↓reduceIte, Option.bind_some, jn, lets, Sum.elim_inl, Sum.elim_inr, if_true, if_false, rd_nI, wr_nI, rd_z, rd_o, wr_z, wr_o, nI_1, nI_add, pk_mul, nI_leI, nI_ltI, nI_eq, z_le, le_z, z_lt, lt_z, eq_z, eq_o, le_o, o_le, lt_o, o_lt, eq_m1, eq_m2, m1_eq, m2_eq, m1_lt, m1_le, o_z, z_o, m1_z, m1_o, m2_z, m2_o, m2_m1, z_lz, z_lo, o_lz, o_ez, z_ez, z_eo, m2_lt, m2_le, leF, leT, ltF, ltT, eqF, eqT, bI_z, bI_o, sh1, sh0, not_true_eq_false, not_false_eq_true, ne_eq, Bool.true_eq_false, Bool.false_eq_true, true_and, and_true, false_and, and_false, l_2, l_3, l_4, l_5, l_6, l_7, l_8, l_9, l_10, l_11, l_12, l_13, l_14, l_15, l_16, l_17, l_18, l_19, l_20, l_21, l_22, l_23, l_24, l_25, l_26, l_27, l_28, l_29, l_30, l_32, l_33, l_34, l_35, l_36, l_37, l_38, l_39, l_50, l_60, l_99, l_100, l_150, l_160, l_240, l_250, l_300, l_400, l_402, l_403, l_420, l_500, l_600, l_840, l_1000, l_1024, l_2000, l_2047, l_2048, l_10000, l_25600, l_500000]) (Ok.inr ⟨d4, ?_⟩)
      have es : Lb W V t h (1000 + 20 * (p + 1)) = Lb W V t h (1000 + 20 * p + W 0 7) := by
        rw [show 1000 + 20 * (p + 1) = (1000 + 20 * p + W 0 7) + (20 - W 0 7) by omega]
        refine Lb_skip _ (fun c c1 c2 => ?_)
        rintro ⟨_, ⟨z, _, _, _⟩ | ⟨_, _, _, z, _⟩⟩
        · omega
        · omega
      rw [es]
      exact ⟨o4, by omega⟩
  · rintro ⟨y, S3⟩ ⟨rfl, d3, o3, l3⟩
    dsimp only at d3 o3 ⊢
    apply Ok.step (r_h1 (RR d3))
    refine Ok.ifT (by simp (disch := omega) only [↓reduceIte, Option.bind_some, jn, lets, Sum.elim_inl, Sum.elim_inr, if_true, if_false, rd_nI, wr_nI, rd_z, rd_o, wr_z, wr_o, nI_1, nI_add, pk_mul, nI_leI, nI_ltI, nI_eq, z_le, le_z, z_lt, lt_z, eq_z, eq_o, le_o, o_le, lt_o, o_lt, eq_m1, eq_m2, m1_eq, m2_eq, m1_lt, m1_le, o_z, z_o, m1_z, m1_o, m2_z, m2_o, m2_m1, z_lz, z_lo, o_lz, o_ez, z_ez, z_eo, m2_lt, m2_le, leF, leT, ltF, ltT, eqF, eqT, bI_z, bI_o, sh1, sh0, not_true_eq_false, not_false_eq_true, ne_eq, Bool.true_eq_false, Bool.false_eq_true, true_and, and_true, false_and, and_false, l_2, l_3, l_4, l_5, l_6, l_7, l_8, l_9, l_10, l_11, l_12, l_13, l_14, l_15, l_16, l_17, l_18, l_19, l_20, l_21, l_22, l_23, l_24, l_25, l_26, l_27, l_28, l_29, l_30, l_32, l_33, l_34, l_35, l_36, l_37, l_38, l_39, l_50, l_60, l_99, l_100, l_150, l_160, l_240, l_250, l_300, l_400, l_402, l_403, l_420, l_500, l_600, l_840, l_1000, l_1024, l_2000, l_2047, l_2048, l_10000, l_25600, l_500000]) (Ok.inr ⟨d3, ?_⟩)
    have es : Lb W V t h 2000 = Lb W V t h (1000 + 20 * W 0 1) := by
      rw [show 2000 = 1000 + 20 * W 0 1 + (1000 - 20 * W 0 1) by omega]
      refine Lb_skip _ (fun c c1 c2 => ?_)
      rintro ⟨_, ⟨z, _, _, _⟩ | ⟨_, _, z, _, _⟩⟩
      · omega
      · omega
    rw [es]
    exact ⟨o3, by omega⟩
end OPT
