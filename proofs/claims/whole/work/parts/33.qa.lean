/-! ===== calls that show the village ===== -/
theorem bt0 : bt (0 : Int32) = nD := funext b_0
theorem XSR_up {S S' : ST} {j : Nat} {v : Int32} (h : Df XSR S S') (hj : j = 60 ∨ j = 61 ∨ 72 ≤ j) : Df XSR S (upI S' 95 j v) := h.up (by
  simp only [XSR, Bool.or_eq_true, decide_eq_true_eq, Bool.and_eq_true, beq_iff_eq, true_and]
  omega)
def wSpkL (W : VW) (V : VL) (D : Nat → Bool) (p h l : Nat) : Bool := anyN (fun o => wMayL W V D p o h 0 l) (W 0 1)
/-- what is asked of two calls that leave all as it was -/
def Sm (a b : Option Int32) : Prop := ∃ v, a = some v ∧ b = some v
/-- of two calls one behind the other -/
def Sc (X : ST → Option (Int32 × ST)) (Y : ST → Option (Int32 × ST)) (S : ST) (I : ST → Prop) : Prop := ∃ v S1 S2, X S = some (v, S1) ∧ Y S1 = some (v, S2) ∧ I S2 ∧ Df XQA S S2
section QA
variable {W : VW} {V : VL} {tw en sd : Nat} {P : PL} {N : Nat} {H : HL} {n : Nat} {S : ST}
theorem q_age (hI : IV W V tw en sd P N H S) (x y : Int32) : Sm (E_X11_age n S tw x y) (E_X12_age n S x y) := by
  obtain ⟨hW, hPW, hHW, hC, hR⟩ := hI
  have hm1 : W 0 1 ≤ 10 := hW.mx (k := 1) (by decide)
  unfold E_X11_age E_X12_age
  rw [c_v1 hC.1 hW, Option.bind_some, r_vP hR.1 hW, Option.bind_some]
  cases c1 : vB x (W 0 1)
  · exact ⟨-1, rfl, rfl⟩
  rw [if_neg (by decide), if_neg (by decide), c_vH, Option.bind_some, r_vH, Option.bind_some]
  cases c2 : vB y 24
  · exact ⟨-1, rfl, rfl⟩
  obtain ⟨p, hp, rfl⟩ := vB_t (by omega) c1
  obtain ⟨h, hh, rfl⟩ := vB_t (by omega) c2
  rw [if_neg (by decide), if_neg (by decide), c_ageAt hC.1 hW hp (by omega), r_ageAt hR.1 hW hp (by omega)]
  exact ⟨_, rfl, rfl⟩
theorem q_where (hI : IV W V tw en sd P N H S) (hn : 30000 ≤ n) (x y : Int32) : Sm (E_X11_where n S tw x y) (E_X12_where n S x y) := by
  obtain ⟨hW, hPW, hHW, hC, hR⟩ := hI
  have hm1 : W 0 1 ≤ 10 := hW.mx (k := 1) (by decide)
  unfold E_X11_where E_X12_where
  rw [c_v1 hC.1 hW, Option.bind_some, r_vP hR.1 hW, Option.bind_some]
  cases c1 : vB x (W 0 1)
  · exact ⟨-1, rfl, rfl⟩
  rw [if_neg (by decide), if_neg (by decide), c_vH, Option.bind_some, r_vH, Option.bind_some]
  cases c2 : vB y 24
  · exact ⟨-1, rfl, rfl⟩
  obtain ⟨p, hp, rfl⟩ := vB_t (by omega) c1
  obtain ⟨h, hh, rfl⟩ := vB_t (by omega) c2
  rw [if_neg (by decide), if_neg (by decide), c_placeOf hC.1 hW hp hh, r_placeOf hR.1 hW hn hp (by omega), hR.2.2.2.2.1, bt0]
  refine ⟨_, rfl, ?_⟩
  unfold plI
  by_cases h0 : 0 < W 0 0
  · have : wOn W nD p = true := by simp [wOn, nD, h0]
    rw [if_pos h0, if_pos this]; rfl
  · have : ¬ wOn W nD p = true := by simp [wOn, nD]; omega
    rw [if_neg h0, if_neg this]; rfl
theorem q_earshot (hI : IV W V tw en sd P N H S) (hn : 30000 ≤ n) (x y : Int32) : Sm (E_X11_earshot n S tw x y) (E_X12_earshot n S x y) := by
  obtain ⟨hW, hPW, hHW, hC, hR⟩ := hI
  have hm0 : W 0 0 ≤ 6 := hW.mx (k := 0) (by decide)
  unfold E_X11_earshot E_X12_earshot
  rw [c_v0 hC.1 hW, Option.bind_some, r_vL hR.1 hW, Option.bind_some]
  cases c1 : vB x (W 0 0)
  · exact ⟨-1, rfl, rfl⟩
  rw [if_neg (by decide), if_neg (by decide), c_vH, Option.bind_some, r_vH, Option.bind_some]
  cases c2 : vB y 24
  · exact ⟨-1, rfl, rfl⟩
  obtain ⟨p, hp, rfl⟩ := vB_t (by omega) c1
  obtain ⟨h, hh, rfl⟩ := vB_t (by omega) c2
  rw [if_neg (by decide), if_neg (by decide), c_hearersN hC.1 hW hp hh, r_earshotOf hR.1 hW hn (by omega) (by omega), hR.2.2.2.2.1, bt0]
  exact ⟨_, rfl, rfl⟩
theorem q_place (he : S.1 8 2 = S.1 95 17) : Sm (E_X11_place n S tw) (E_X12_place n S) := ⟨_, rfl, by rw [he]; rfl⟩
theorem q_stand (hI : IV W V tw en sd P N H S) (hn : 30000 ≤ n) (x y z : Int32) : ∃ v S2, E_X11_stand n S tw x y z = some v ∧ E_X12_stand n S x y z = some (v, S2) ∧ IV W V tw en sd P N H S2 ∧ Df XQA S S2 := by
  have hI0 := hI
  obtain ⟨hW, hPW, hHW, hC, hR⟩ := hI
  have hm0 : W 0 0 ≤ 6 := hW.mx (k := 0) (by decide)
  unfold E_X11_stand E_X12_stand
  rw [c_v0 hC.1 hW, Option.bind_some, r_vL hR.1 hW, Option.bind_some]
  cases c1 : vB x (W 0 0)
  · exact ⟨-1, S, rfl, rfl, hI0, Df.refl _ _⟩
  rw [if_neg (by decide), if_neg (by decide), c_vH, Option.bind_some, r_vH, Option.bind_some]
  cases c2 : vB y 24
  · exact ⟨-1, S, rfl, rfl, hI0, Df.refl _ _⟩
  rw [if_neg (by decide), if_neg (by decide), c_vS hC.1 hW, Option.bind_some, r_vS hR.1 hW, Option.bind_some]
  cases c3 : vS z (W 0 1)
  · exact ⟨-1, S, rfl, rfl, hI0, Df.refl _ _⟩
  obtain ⟨p, hp, rfl⟩ := vB_t (by omega) c1
  obtain ⟨h, hh, rfl⟩ := vB_t (by omega) c2
  have d : Df XSR S (upI S 95 61 0) := XSR_up (Df.refl _ _) (by omega)
  have hR2 : RI W V sd P N H (upI S 95 61 0) := hR.dfS d (by rw [upI_at, if_pos ⟨rfl, rfl⟩]) (by rw [upI_at, if_neg (by omega)]; exact hR.2.2.2.2.2)
  rw [if_neg (by decide), if_neg (by decide), c_hearersN hC.1 hW hp hh]
  simp only [lets]
  rw [r_earshotOf hR2.1 hW hn (by omega) (by omega), hR2.2.2.2.2.1, bt0]
  exact ⟨_, _, rfl, rfl, ⟨hW, hPW, hHW, hC.dfR (XSR_XRf d), hR2⟩, XSR_XQA d⟩
theorem all_on (m : Nat) (hm : m ≤ 10) : (1 : Int32) <<< (nI m &&& 31) - 1 = bs (fun p => !nD p) m := (by decide +kernel : ∀ m, m < 11 → (1 : Int32) <<< (nI m &&& 31) - 1 = bs (fun _ => true) m) m (by omega)
theorem c_all (hC : CW W V tw S) (hW : WF W) : E_X10_everybody n S tw = some (bs (fun p => !nD p) (W 0 1)) := by
  have hm1 : W 0 1 ≤ 10 := hW.mx (k := 1) (by decide)
  unfold E_X10_everybody
  rw [rd_o (by decide) (by decide), Option.bind_some, g_n hC 1 (by decide), all_on _ hm1]
theorem q_may (hI : IV W V tw en sd P N H S) (hn : 30000 ≤ n) (x y z : Int32) {s : Nat} (hs : s < 2) : Sc (fun S => E_X11_may n S tw x y z (nI s)) (fun S => E_X12_may n S x y z (nI s)) S (IV W V tw en sd P N H) := by
  have hI0 := hI
  obtain ⟨hW, hPW, hHW, hC, hR⟩ := hI
  have hm1 : W 0 1 ≤ 10 := hW.mx (k := 1) (by decide)
  unfold Sc
  dsimp only
  have no : E_X11_may n S tw x y z (nI s) = some (-1, S) → E_X12_may n S x y z (nI s) = some (-1, S) → ∃ v S1 S2, E_X11_may n S tw x y z (nI s) = some (v, S1) ∧ E_X12_may n S1 x y z (nI s) = some (v, S2) ∧ IV W V tw en sd P N H S2 ∧ Df XQA S S2 := fun h1 h2 => ⟨-1, S, S, h1, h2, hI0, Df.refl _ _⟩
  have ea : E_X11_may n S tw x y z (nI s) = (if bI (vB x (W 0 1) && (vB y (W 0 1) && decide (x ≠ y))) = 0 then some ((-1 : Int32), S) else if bI (vB z 24) = 0 then some ((-1 : Int32), S) else (E_X10_allows n S tw x y z (nI s) (bs (fun p => !nD p) (W 0 1))).bind fun v6 => if v6.1 = 0 then some ((0 : Int32), v6.2) else some ((1 : Int32), v6.2)) := by
    unfold E_X11_may
    rw [c_two hC.1 hW, Option.bind_some, c_vH, Option.bind_some, c_all hC.1 hW, Option.bind_some]
  have eb : ∀ S1, RRep W sd S1 → E_X12_may n S1 x y z (nI s) = (if bI (vB x (W 0 1)) = 0 then some ((-1 : Int32), S1) else if bI (vB y (W 0 1)) = 0 then some ((-1 : Int32), S1) else if x = y then some ((-1 : Int32), S1) else if bI (vB z 24) = 0 then some ((-1 : Int32), S1) else (E_X12_mayBy n S1 x y z (nI s) (0 : Int32)).bind fun v9 => if v9.1 = 0 then some ((0 : Int32), v9.2) else some ((1 : Int32), v9.2)) := fun S1 hR1 => by
    unfold E_X12_may
    rw [r_vP hR1 hW, Option.bind_some, r_vP hR1 hW, Option.bind_some, r_vH, Option.bind_some]
    rcases (show s = 0 ∨ s = 1 by omega) with rfl | rfl
    · rfl
    · rfl
  cases c1 : vB x (W 0 1)
  · refine no (by rw [ea, c1]; rfl) (by rw [eb S hR.1, c1]; rfl)
  cases c2 : vB y (W 0 1)
  · refine no (by rw [ea, c1, c2]; rfl) (by rw [eb S hR.1, c1, c2]; rfl)
  by_cases c3 : x = y
  · refine no (by rw [ea, c1, c2]; simp [c3, bI]) (by rw [eb S hR.1, c1, c2, if_neg (by decide), if_neg (by decide), if_pos c3])
  cases c4 : vB z 24
  · refine no (by rw [ea, c1, c2, c4]; simp [c3, bI]) (by rw [eb S hR.1, c1, c2, c4, if_neg (by decide), if_neg (by decide), if_neg c3]; rfl)
  obtain ⟨p, hp, rfl⟩ := vB_t (by omega) c1
  obtain ⟨o, ho, rfl⟩ := vB_t (by omega) c2
  obtain ⟨h, hh, rfl⟩ := vB_t (by omega) c4
  have hpo : p ≠ o := fun e => c3 (by rw [e])
  obtain ⟨⟨v, S1⟩, e1, h1, d1⟩ := c_allows hC.1 hW hn (D := nD) hp ho hpo hh hs
  dsimp only at h1 d1
  subst h1
  have d1' : Df (XS tw) S S1 := d1.mono (fun a j hx => by
    simp only [XS, XA, Bool.or_eq_false_iff, beq_eq_false_iff_ne] at hx ⊢
    omega)
  have hR1 := hR.dfC (XS_XCl hC.1.1 d1')
  have hC1 := hC.dfS d1'
  obtain ⟨⟨v, S2⟩, e2, h2, d2⟩ := r_mayBy hR1.1 hW hR1.2.1 hn hp ho (h := h) (by omega) hs (l := 0) (by decide)
  dsimp only at h2 d2
  rw [hR1.2.2.2.2.1, bt0] at h2
  subst h2
  have d2' := XM_XSR d2
  refine ⟨bI (wMay W V nD p o h s), S1, S2, ?_, ?_, ⟨hW, hPW, hHW, hC1.dfR (XSR_XRf d2'), hR1.dfS d2' (by rw [d2.2 _ _ rfl]; exact hR1.2.2.2.2.1) (by rw [d2.2 _ _ rfl]; exact hR1.2.2.2.2.2)⟩, (XS_XQA hC.1.1 d1').trans (XSR_XQA d2')⟩
  · rw [ea, c1, c2, c4, e1, Option.bind_some]
    have : decide (nI p ≠ nI o) = true := by simp [c3]
    rw [this, if_neg (by decide), if_neg (by decide)]
    cases wMay W V nD p o h s <;> rfl
  · rw [eb S1 hR1.1, c1, c2, c4, if_neg (by decide), if_neg (by decide), if_neg c3, if_neg (by decide)]
    rw [nI_0] at e2
    rw [e2, Option.bind_some]
    show (if bI (wMay W V nD p o h s) = 0 then _ else _) = _
    cases wMay W V nD p o h s <;> rfl
def wYoung (W : VW) (p h : Nat) : Int32 := bs (fun o => wHear W nD (wPl W p h) h o && decide (wAge W o h < wAge W p h)) (W 0 1)
theorem r_young (hR : RRep W sd S) (hW : WF W) (hn : 30000 ≤ n) (hD : S.1 95 61 = 0) {p h : Nat} (hp : p < W 0 1) (hh : h < 24) : E_X12_youngerIn n S (nI p) (nI h) = some (wYoung W p h) := by
  have hm1 : W 0 1 ≤ 10 := hW.mx (k := 1) (by decide)
  have hm0 : W 0 0 ≤ 6 := hW.mx (k := 0) (by decide)
  apply Ok.e
  unfold E_X12_youngerIn
  have hpl := r_placeOf hR hW hn hp (h := h) (by omega)
  rw [hD, bt0] at hpl
  apply Ok.step hpl
  by_cases h0 : 0 < W 0 0
  case neg =>
    have c : ¬ wOn W nD p = true := by simp [wOn, nD]; omega
    rw [if_neg c]
    refine Ok.ifF (by decide) (Ok.ret ?_)
    unfold wYoung
    rw [bs_congr (Q := fun _ => false) (fun i _ => by rw [wHear_0 (by omega)]; rfl), bs_false]
  have c : wOn W nD p = true := by simp [wOn, nD, h0]
  have hlt := wPl_lt hW h0 p h
  rw [if_pos c] at hpl ⊢
  refine Ok.ifT (nI_pos' (by omega)) ?_
  apply Ok.step hpl
  have hes := r_earshotOf (x := wPl W p h) hR hW hn (by omega) (h := h) (by omega)
  rw [hD, bt0] at hes
  apply Ok.step hes
  refine bindP (fun i => (bs (fun o => wHear W nD (wPl W p h) h o && decide (wAge W o h < wAge W p h)) i, nI i)) (wYoung W p h) 0 (W 0 1) (Nat.zero_le _) (by omega) rfl ?_ ?_ (Ok.ret rfl)
  · intro i _ hi
    have a1 := wAge_le hW (h := h) hp
    have a2 := wAge_le hW (h := h) hi
    cases c1 : wHear W nD (wPl W p h) h i
    · (repeat (first | ((with_reducible apply Ok.step); · ((try simp (disch := omega) only [↓reduceIte, Option.bind_some, Sum.elim_inl, Sum.elim_inr, if_true, if_false, rd_nI, wr_nI, rd_z, rd_o, wr_z, wr_o, nI_1, nI_add, pk_mul, nI_leI, nI_ltI, nI_eq, z_le, le_z, z_lt, lt_z, eq_z, eq_o, le_o, o_le, lt_o, o_lt, eq_m1, eq_m2, m1_eq, m2_eq, m1_lt, m1_le, o_z, z_o, m1_z, m1_o, m2_z, m2_o, m2_m1, z_lz, z_lo, o_lz, o_ez, z_ez, z_eo, m2_lt, m2_le, leF, leT, ltF, ltT, eqF, eqT, bI_z, bI_o, sh1, sh0, not_true_eq_false, not_false_eq_true, ne_eq, Bool.true_eq_false, Bool.false_eq_true, true_and, and_true, false_and, and_false, l_2, l_3, l_4, l_5, l_6, l_7, l_8, l_9, l_10, l_11, l_12, l_13, l_14, l_15, l_16, l_17, l_18, l_19, l_20, l_21, l_22, l_23, l_24, l_25, l_26, l_27, l_28, l_29, l_30, l_32, l_33, l_34, l_35, l_36, l_37, l_38, l_39, l_50, l_60, l_99, l_100, l_150, l_160, l_240, l_250, l_300, l_400, l_402, l_403, l_420, l_500, l_600, l_840, l_1000, l_1024, l_2000, l_2047, l_2048, l_10000, l_25600, l_500000, r_h1 hR, bt_lt, c1]); with_reducible exact rfl)) | ((with_reducible apply Ok.ifT); · (first | (simp (disch := omega) only [↓reduceIte, Option.bind_some, Sum.elim_inl, Sum.elim_inr, if_true, if_false, rd_nI, wr_nI, rd_z, rd_o, wr_z, wr_o, nI_1, nI_add, pk_mul, nI_leI, nI_ltI, nI_eq, z_le, le_z, z_lt, lt_z, eq_z, eq_o, le_o, o_le, lt_o, o_lt, eq_m1, eq_m2, m1_eq, m2_eq, m1_lt, m1_le, o_z, z_o, m1_z, m1_o, m2_z, m2_o, m2_m1, z_lz, z_lo, o_lz, o_ez, z_ez, z_eo, m2_lt, m2_le, leF, leT, ltF, ltT, eqF, eqT, bI_z, bI_o, sh1, sh0, not_true_eq_false, not_false_eq_true, ne_eq, Bool.true_eq_false, Bool.false_eq_true, true_and, and_true, false_and, and_false, l_2, l_3, l_4, l_5, l_6, l_7, l_8, l_9, l_10, l_11, l_12, l_13, l_14, l_15, l_16, l_17, l_18, l_19, l_20, l_21, l_22, l_23, l_24, l_25, l_26, l_27, l_28, l_29, l_30, l_32, l_33, l_34, l_35, l_36, l_37, l_38, l_39, l_50, l_60, l_99, l_100, l_150, l_160, l_240, l_250, l_300, l_400, l_402, l_403, l_420, l_500, l_600, l_840, l_1000, l_1024, l_2000, l_2047, l_2048, l_10000, l_25600, l_500000, r_h1 hR, bt_lt, c1]; done) | omega)) | ((with_reducible apply Ok.ifF); · (first | (simp (disch := omega) only [↓reduceIte, Option.bind_some, Sum.elim_inl, Sum.elim_inr, if_true, if_false, rd_nI, wr_nI, rd_z, rd_o, wr_z, wr_o, nI_1, nI_add, pk_mul, nI_leI, nI_ltI, nI_eq, z_le, le_z, z_lt, lt_z, eq_z, eq_o, le_o, o_le, lt_o, o_lt, eq_m1, eq_m2, m1_eq, m2_eq, m1_lt, m1_le, o_z, z_o, m1_z, m1_o, m2_z, m2_o, m2_m1, z_lz, z_lo, o_lz, o_ez, z_ez, z_eo, m2_lt, m2_le, leF, leT, ltF, ltT, eqF, eqT, bI_z, bI_o, sh1, sh0, not_true_eq_false, not_false_eq_true, ne_eq, Bool.true_eq_false, Bool.false_eq_true, true_and, and_true, false_and, and_false, l_2, l_3, l_4, l_5, l_6, l_7, l_8, l_9, l_10, l_11, l_12, l_13, l_14, l_15, l_16, l_17, l_18, l_19, l_20, l_21, l_22, l_23, l_24, l_25, l_26, l_27, l_28, l_29, l_30, l_32, l_33, l_34, l_35, l_36, l_37, l_38, l_39, l_50, l_60, l_99, l_100, l_150, l_160, l_240, l_250, l_300, l_400, l_402, l_403, l_420, l_500, l_600, l_840, l_1000, l_1024, l_2000, l_2047, l_2048, l_10000, l_25600, l_500000, r_h1 hR, bt_lt, c1]; done) | omega)) | with_reducible apply Ok.jnU | with_reducible apply Ok.letsU | with_reducible apply Ok.elL | with_reducible apply Ok.elR | ((with_reducible apply Ok.gdT); · exact bI_nar _)))
      exact Ok.ret (by rw [bs, c1, nI_1]; rfl)
    · by_cases c2 : wAge W i h < wAge W p h
      · (repeat (first | ((with_reducible apply Ok.step); · ((try simp (disch := omega) only [↓reduceIte, Option.bind_some, Sum.elim_inl, Sum.elim_inr, if_true, if_false, rd_nI, wr_nI, rd_z, rd_o, wr_z, wr_o, nI_1, nI_add, pk_mul, nI_leI, nI_ltI, nI_eq, z_le, le_z, z_lt, lt_z, eq_z, eq_o, le_o, o_le, lt_o, o_lt, eq_m1, eq_m2, m1_eq, m2_eq, m1_lt, m1_le, o_z, z_o, m1_z, m1_o, m2_z, m2_o, m2_m1, z_lz, z_lo, o_lz, o_ez, z_ez, z_eo, m2_lt, m2_le, leF, leT, ltF, ltT, eqF, eqT, bI_z, bI_o, sh1, sh0, not_true_eq_false, not_false_eq_true, ne_eq, Bool.true_eq_false, Bool.false_eq_true, true_and, and_true, false_and, and_false, l_2, l_3, l_4, l_5, l_6, l_7, l_8, l_9, l_10, l_11, l_12, l_13, l_14, l_15, l_16, l_17, l_18, l_19, l_20, l_21, l_22, l_23, l_24, l_25, l_26, l_27, l_28, l_29, l_30, l_32, l_33, l_34, l_35, l_36, l_37, l_38, l_39, l_50, l_60, l_99, l_100, l_150, l_160, l_240, l_250, l_300, l_400, l_402, l_403, l_420, l_500, l_600, l_840, l_1000, l_1024, l_2000, l_2047, l_2048, l_10000, l_25600, l_500000, r_h1 hR, bt_lt, c1, r_ageAt hR hW, c2]); with_reducible exact rfl)) | ((with_reducible apply Ok.ifT); · (first | (simp (disch := omega) only [↓reduceIte, Option.bind_some, Sum.elim_inl, Sum.elim_inr, if_true, if_false, rd_nI, wr_nI, rd_z, rd_o, wr_z, wr_o, nI_1, nI_add, pk_mul, nI_leI, nI_ltI, nI_eq, z_le, le_z, z_lt, lt_z, eq_z, eq_o, le_o, o_le, lt_o, o_lt, eq_m1, eq_m2, m1_eq, m2_eq, m1_lt, m1_le, o_z, z_o, m1_z, m1_o, m2_z, m2_o, m2_m1, z_lz, z_lo, o_lz, o_ez, z_ez, z_eo, m2_lt, m2_le, leF, leT, ltF, ltT, eqF, eqT, bI_z, bI_o, sh1, sh0, not_true_eq_false, not_false_eq_true, ne_eq, Bool.true_eq_false, Bool.false_eq_true, true_and, and_true, false_and, and_false, l_2, l_3, l_4, l_5, l_6, l_7, l_8, l_9, l_10, l_11, l_12, l_13, l_14, l_15, l_16, l_17, l_18, l_19, l_20, l_21, l_22, l_23, l_24, l_25, l_26, l_27, l_28, l_29, l_30, l_32, l_33, l_34, l_35, l_36, l_37, l_38, l_39, l_50, l_60, l_99, l_100, l_150, l_160, l_240, l_250, l_300, l_400, l_402, l_403, l_420, l_500, l_600, l_840, l_1000, l_1024, l_2000, l_2047, l_2048, l_10000, l_25600, l_500000, r_h1 hR, bt_lt, c1, r_ageAt hR hW, c2]; done) | omega)) | ((with_reducible apply Ok.ifF); · (first | (simp (disch := omega) only [↓reduceIte, Option.bind_some, Sum.elim_inl, Sum.elim_inr, if_true, if_false, rd_nI, wr_nI, rd_z, rd_o, wr_z, wr_o, nI_1, nI_add, pk_mul, nI_leI, nI_ltI, nI_eq, z_le, le_z, z_lt, lt_z, eq_z, eq_o, le_o, o_le, lt_o, o_lt, eq_m1, eq_m2, m1_eq, m2_eq, m1_lt, m1_le, o_z, z_o, m1_z, m1_o, m2_z, m2_o, m2_m1, z_lz, z_lo, o_lz, o_ez, z_ez, z_eo, m2_lt, m2_le, leF, leT, ltF, ltT, eqF, eqT, bI_z, bI_o, sh1, sh0, not_true_eq_false, not_false_eq_true, ne_eq, Bool.true_eq_false, Bool.false_eq_true, true_and, and_true, false_and, and_false, l_2, l_3, l_4, l_5, l_6, l_7, l_8, l_9, l_10, l_11, l_12, l_13, l_14, l_15, l_16, l_17, l_18, l_19, l_20, l_21, l_22, l_23, l_24, l_25, l_26, l_27, l_28, l_29, l_30, l_32, l_33, l_34, l_35, l_36, l_37, l_38, l_39, l_50, l_60, l_99, l_100, l_150, l_160, l_240, l_250, l_300, l_400, l_402, l_403, l_420, l_500, l_600, l_840, l_1000, l_1024, l_2000, l_2047, l_2048, l_10000, l_25600, l_500000, r_h1 hR, bt_lt, c1, r_ageAt hR hW, c2]; done) | omega)) | with_reducible apply Ok.jnU | with_reducible apply Ok.letsU | with_reducible apply Ok.elL | with_reducible apply Ok.elR | ((with_reducible apply Ok.gdT); · exact bI_nar _)))
        exact Ok.ret (by rw [bs, c1, nI_1, if_pos (by simp [c2])])
      · (repeat (first | ((with_reducible apply Ok.step); · ((try simp (disch := omega) only [↓reduceIte, Option.bind_some, Sum.elim_inl, Sum.elim_inr, if_true, if_false, rd_nI, wr_nI, rd_z, rd_o, wr_z, wr_o, nI_1, nI_add, pk_mul, nI_leI, nI_ltI, nI_eq, z_le, le_z, z_lt, lt_z, eq_z, eq_o, le_o, o_le, lt_o, o_lt, eq_m1, eq_m2, m1_eq, m2_eq, m1_lt, m1_le, o_z, z_o, m1_z, m1_o, m2_z, m2_o, m2_m1, z_lz, z_lo, o_lz, o_ez, z_ez, z_eo, m2_lt, m2_le, leF, leT, ltF, ltT, eqF, eqT, bI_z, bI_o, sh1, sh0, not_true_eq_false, not_false_eq_true, ne_eq, Bool.true_eq_false, Bool.false_eq_true, true_and, and_true, false_and, and_false, l_2, l_3, l_4, l_5, l_6, l_7, l_8, l_9, l_10, l_11, l_12, l_13, l_14, l_15, l_16, l_17, l_18, l_19, l_20, l_21, l_22, l_23, l_24, l_25, l_26, l_27, l_28, l_29, l_30, l_32, l_33, l_34, l_35, l_36, l_37, l_38, l_39, l_50, l_60, l_99, l_100, l_150, l_160, l_240, l_250, l_300, l_400, l_402, l_403, l_420, l_500, l_600, l_840, l_1000, l_1024, l_2000, l_2047, l_2048, l_10000, l_25600, l_500000, r_h1 hR, bt_lt, c1, r_ageAt hR hW, c2]); with_reducible exact rfl)) | ((with_reducible apply Ok.ifT); · (first | (simp (disch := omega) only [↓reduceIte, Option.bind_some, Sum.elim_inl, Sum.elim_inr, if_true, if_false, rd_nI, wr_nI, rd_z, rd_o, wr_z, wr_o, nI_1, nI_add, pk_mul, nI_leI, nI_ltI, nI_eq, z_le, le_z, z_lt, lt_z, eq_z, eq_o, le_o, o_le, lt_o, o_lt, eq_m1, eq_m2, m1_eq, m2_eq, m1_lt, m1_le, o_z, z_o, m1_z, m1_o, m2_z, m2_o, m2_m1, z_lz, z_lo, o_lz, o_ez, z_ez, z_eo, m2_lt, m2_le, leF, leT, ltF, ltT, eqF, eqT, bI_z, bI_o, sh1, sh0, not_true_eq_false, not_false_eq_true, ne_eq, Bool.true_eq_false, Bool.false_eq_true, true_and, and_true, false_and, and_false, l_2, l_3, l_4, l_5, l_6, l_7, l_8, l_9, l_10, l_11, l_12, l_13, l_14, l_15, l_16, l_17, l_18, l_19, l_20, l_21, l_22, l_23, l_24, l_25, l_26, l_27, l_28, l_29, l_30, l_32, l_33, l_34, l_35, l_36, l_37, l_38, l_39, l_50, l_60, l_99, l_100, l_150, l_160, l_240, l_250, l_300, l_400, l_402, l_403, l_420, l_500, l_600, l_840, l_1000, l_1024, l_2000, l_2047, l_2048, l_10000, l_25600, l_500000, r_h1 hR, bt_lt, c1, r_ageAt hR hW, c2]; done) | omega)) | ((with_reducible apply Ok.ifF); · (first | (simp (disch := omega) only [↓reduceIte, Option.bind_some, Sum.elim_inl, Sum.elim_inr, if_true, if_false, rd_nI, wr_nI, rd_z, rd_o, wr_z, wr_o, nI_1, nI_add, pk_mul, nI_leI, nI_ltI, nI_eq, z_le, le_z, z_lt, lt_z, eq_z, eq_o, le_o, o_le, lt_o, o_lt, eq_m1, eq_m2, m1_eq, m2_eq, m1_lt, m1_le, o_z, z_o, m1_z, m1_o, m2_z, m2_o, m2_m1, z_lz, z_lo, o_lz, o_ez, z_ez, z_eo, m2_lt, m2_le, leF, leT, ltF, ltT, eqF, eqT, bI_z, bI_o, sh1, sh0, not_true_eq_false, not_false_eq_true, ne_eq, Bool.true_eq_false, Bool.false_eq_true, true_and, and_true, false_and, and_false, l_2, l_3, l_4, l_5, l_6, l_7, l_8, l_9, l_10, l_11, l_12, l_13, l_14, l_15, l_16, l_17, l_18, l_19, l_20, l_21, l_22, l_23, l_24, l_25, l_26, l_27, l_28, l_29, l_30, l_32, l_33, l_34, l_35, l_36, l_37, l_38, l_39, l_50, l_60, l_99, l_100, l_150, l_160, l_240, l_250, l_300, l_400, l_402, l_403, l_420, l_500, l_600, l_840, l_1000, l_1024, l_2000, l_2047, l_2048, l_10000, l_25600, l_500000, r_h1 hR, bt_lt, c1, r_ageAt hR hW, c2]; done) | omega)) | with_reducible apply Ok.jnU | with_reducible apply Ok.letsU | with_reducible apply Ok.elL | with_reducible apply Ok.elR | ((with_reducible apply Ok.gdT); · exact bI_nar _)))
        exact Ok.ret (by rw [bs, c1, nI_1, if_neg (by simp [c2])])
  · (repeat (first | ((with_reducible apply Ok.step); · ((try simp (disch := omega) only [↓reduceIte, Option.bind_some, Sum.elim_inl, Sum.elim_inr, if_true, if_false, rd_nI, wr_nI, rd_z, rd_o, wr_z, wr_o, nI_1, nI_add, pk_mul, nI_leI, nI_ltI, nI_eq, z_le, le_z, z_lt, lt_z, eq_z, eq_o, le_o, o_le, lt_o, o_lt, eq_m1, eq_m2, m1_eq, m2_eq, m1_lt, m1_le, o_z, z_o, m1_z, m1_o, m2_z, m2_o, m2_m1, z_lz, z_lo, o_lz, o_ez, z_ez, z_eo, m2_lt, m2_le, leF, leT, ltF, ltT, eqF, eqT, bI_z, bI_o, sh1, sh0, not_true_eq_false, not_false_eq_true, ne_eq, Bool.true_eq_false, Bool.false_eq_true, true_and, and_true, false_and, and_false, l_2, l_3, l_4, l_5, l_6, l_7, l_8, l_9, l_10, l_11, l_12, l_13, l_14, l_15, l_16, l_17, l_18, l_19, l_20, l_21, l_22, l_23, l_24, l_25, l_26, l_27, l_28, l_29, l_30, l_32, l_33, l_34, l_35, l_36, l_37, l_38, l_39, l_50, l_60, l_99, l_100, l_150, l_160, l_240, l_250, l_300, l_400, l_402, l_403, l_420, l_500, l_600, l_840, l_1000, l_1024, l_2000, l_2047, l_2048, l_10000, l_25600, l_500000, r_h1 hR]); with_reducible exact rfl)) | ((with_reducible apply Ok.ifT); · (first | (simp (disch := omega) only [↓reduceIte, Option.bind_some, Sum.elim_inl, Sum.elim_inr, if_true, if_false, rd_nI, wr_nI, rd_z, rd_o, wr_z, wr_o, nI_1, nI_add, pk_mul, nI_leI, nI_ltI, nI_eq, z_le, le_z, z_lt, lt_z, eq_z, eq_o, le_o, o_le, lt_o, o_lt, eq_m1, eq_m2, m1_eq, m2_eq, m1_lt, m1_le, o_z, z_o, m1_z, m1_o, m2_z, m2_o, m2_m1, z_lz, z_lo, o_lz, o_ez, z_ez, z_eo, m2_lt, m2_le, leF, leT, ltF, ltT, eqF, eqT, bI_z, bI_o, sh1, sh0, not_true_eq_false, not_false_eq_true, ne_eq, Bool.true_eq_false, Bool.false_eq_true, true_and, and_true, false_and, and_false, l_2, l_3, l_4, l_5, l_6, l_7, l_8, l_9, l_10, l_11, l_12, l_13, l_14, l_15, l_16, l_17, l_18, l_19, l_20, l_21, l_22, l_23, l_24, l_25, l_26, l_27, l_28, l_29, l_30, l_32, l_33, l_34, l_35, l_36, l_37, l_38, l_39, l_50, l_60, l_99, l_100, l_150, l_160, l_240, l_250, l_300, l_400, l_402, l_403, l_420, l_500, l_600, l_840, l_1000, l_1024, l_2000, l_2047, l_2048, l_10000, l_25600, l_500000, r_h1 hR]; done) | omega)) | ((with_reducible apply Ok.ifF); · (first | (simp (disch := omega) only [↓reduceIte, Option.bind_some, Sum.elim_inl, Sum.elim_inr, if_true, if_false, rd_nI, wr_nI, rd_z, rd_o, wr_z, wr_o, nI_1, nI_add, pk_mul, nI_leI, nI_ltI, nI_eq, z_le, le_z, z_lt, lt_z, eq_z, eq_o, le_o, o_le, lt_o, o_lt, eq_m1, eq_m2, m1_eq, m2_eq, m1_lt, m1_le, o_z, z_o, m1_z, m1_o, m2_z, m2_o, m2_m1, z_lz, z_lo, o_lz, o_ez, z_ez, z_eo, m2_lt, m2_le, leF, leT, ltF, ltT, eqF, eqT, bI_z, bI_o, sh1, sh0, not_true_eq_false, not_false_eq_true, ne_eq, Bool.true_eq_false, Bool.false_eq_true, true_and, and_true, false_and, and_false, l_2, l_3, l_4, l_5, l_6, l_7, l_8, l_9, l_10, l_11, l_12, l_13, l_14, l_15, l_16, l_17, l_18, l_19, l_20, l_21, l_22, l_23, l_24, l_25, l_26, l_27, l_28, l_29, l_30, l_32, l_33, l_34, l_35, l_36, l_37, l_38, l_39, l_50, l_60, l_99, l_100, l_150, l_160, l_240, l_250, l_300, l_400, l_402, l_403, l_420, l_500, l_600, l_840, l_1000, l_1024, l_2000, l_2047, l_2048, l_10000, l_25600, l_500000, r_h1 hR]; done) | omega)) | with_reducible apply Ok.jnU | with_reducible apply Ok.letsU | with_reducible apply Ok.elL | with_reducible apply Ok.elR | ((with_reducible apply Ok.gdT); · exact bI_nar _)))
    exact Ok.ret rfl
theorem c_young (hC : CW W V tw S) (hW : WF W) (hn : 30000 ≤ n) {p h : Nat} (hp : p < W 0 1) (hh : h < 24) : E_X11_youngerHearers n S tw (nI p) (nI h) = some (wYoung W p h) := by
  have hm1 : W 0 1 ≤ 10 := hW.mx (k := 1) (by decide)
  apply Ok.e
  unfold E_X11_youngerHearers
  apply Ok.step (c_placeOf hC hW hp hh)
  apply Ok.step (c_hearers hC hW hh)
  refine bindP (fun i => (bs (fun o => wHear W nD (wPl W p h) h o && decide (wAge W o h < wAge W p h)) i, nI i)) (wYoung W p h) 0 (W 0 1) (Nat.zero_le _) (by omega) rfl ?_ ?_ (Ok.ret rfl)
  · intro i _ hi
    have a1 := wAge_le hW (h := h) hp
    have a2 := wAge_le hW (h := h) hi
    cases c1 : wHear W nD (wPl W p h) h i
    · (repeat (first | ((with_reducible apply Ok.step); · ((try simp (disch := omega) only [↓reduceIte, Option.bind_some, Sum.elim_inl, Sum.elim_inr, if_true, if_false, rd_nI, wr_nI, rd_z, rd_o, wr_z, wr_o, nI_1, nI_add, pk_mul, nI_leI, nI_ltI, nI_eq, z_le, le_z, z_lt, lt_z, eq_z, eq_o, le_o, o_le, lt_o, o_lt, eq_m1, eq_m2, m1_eq, m2_eq, m1_lt, m1_le, o_z, z_o, m1_z, m1_o, m2_z, m2_o, m2_m1, z_lz, z_lo, o_lz, o_ez, z_ez, z_eo, m2_lt, m2_le, leF, leT, ltF, ltT, eqF, eqT, bI_z, bI_o, sh1, sh0, not_true_eq_false, not_false_eq_true, ne_eq, Bool.true_eq_false, Bool.false_eq_true, true_and, and_true, false_and, and_false, l_2, l_3, l_4, l_5, l_6, l_7, l_8, l_9, l_10, l_11, l_12, l_13, l_14, l_15, l_16, l_17, l_18, l_19, l_20, l_21, l_22, l_23, l_24, l_25, l_26, l_27, l_28, l_29, l_30, l_32, l_33, l_34, l_35, l_36, l_37, l_38, l_39, l_50, l_60, l_99, l_100, l_150, l_160, l_240, l_250, l_300, l_400, l_402, l_403, l_420, l_500, l_600, l_840, l_1000, l_1024, l_2000, l_2047, l_2048, l_10000, l_25600, l_500000, g_n hC, c_hasBit, bt_lt, c1]); with_reducible exact rfl)) | ((with_reducible apply Ok.ifT); · (first | (simp (disch := omega) only [↓reduceIte, Option.bind_some, Sum.elim_inl, Sum.elim_inr, if_true, if_false, rd_nI, wr_nI, rd_z, rd_o, wr_z, wr_o, nI_1, nI_add, pk_mul, nI_leI, nI_ltI, nI_eq, z_le, le_z, z_lt, lt_z, eq_z, eq_o, le_o, o_le, lt_o, o_lt, eq_m1, eq_m2, m1_eq, m2_eq, m1_lt, m1_le, o_z, z_o, m1_z, m1_o, m2_z, m2_o, m2_m1, z_lz, z_lo, o_lz, o_ez, z_ez, z_eo, m2_lt, m2_le, leF, leT, ltF, ltT, eqF, eqT, bI_z, bI_o, sh1, sh0, not_true_eq_false, not_false_eq_true, ne_eq, Bool.true_eq_false, Bool.false_eq_true, true_and, and_true, false_and, and_false, l_2, l_3, l_4, l_5, l_6, l_7, l_8, l_9, l_10, l_11, l_12, l_13, l_14, l_15, l_16, l_17, l_18, l_19, l_20, l_21, l_22, l_23, l_24, l_25, l_26, l_27, l_28, l_29, l_30, l_32, l_33, l_34, l_35, l_36, l_37, l_38, l_39, l_50, l_60, l_99, l_100, l_150, l_160, l_240, l_250, l_300, l_400, l_402, l_403, l_420, l_500, l_600, l_840, l_1000, l_1024, l_2000, l_2047, l_2048, l_10000, l_25600, l_500000, g_n hC, c_hasBit, bt_lt, c1]; done) | omega)) | ((with_reducible apply Ok.ifF); · (first | (simp (disch := omega) only [↓reduceIte, Option.bind_some, Sum.elim_inl, Sum.elim_inr, if_true, if_false, rd_nI, wr_nI, rd_z, rd_o, wr_z, wr_o, nI_1, nI_add, pk_mul, nI_leI, nI_ltI, nI_eq, z_le, le_z, z_lt, lt_z, eq_z, eq_o, le_o, o_le, lt_o, o_lt, eq_m1, eq_m2, m1_eq, m2_eq, m1_lt, m1_le, o_z, z_o, m1_z, m1_o, m2_z, m2_o, m2_m1, z_lz, z_lo, o_lz, o_ez, z_ez, z_eo, m2_lt, m2_le, leF, leT, ltF, ltT, eqF, eqT, bI_z, bI_o, sh1, sh0, not_true_eq_false, not_false_eq_true, ne_eq, Bool.true_eq_false, Bool.false_eq_true, true_and, and_true, false_and, and_false, l_2, l_3, l_4, l_5, l_6, l_7, l_8, l_9, l_10, l_11, l_12, l_13, l_14, l_15, l_16, l_17, l_18, l_19, l_20, l_21, l_22, l_23, l_24, l_25, l_26, l_27, l_28, l_29, l_30, l_32, l_33, l_34, l_35, l_36, l_37, l_38, l_39, l_50, l_60, l_99, l_100, l_150, l_160, l_240, l_250, l_300, l_400, l_402, l_403, l_420, l_500, l_600, l_840, l_1000, l_1024, l_2000, l_2047, l_2048, l_10000, l_25600, l_500000, g_n hC, c_hasBit, bt_lt, c1]; done) | omega)) | with_reducible apply Ok.jnU | with_reducible apply Ok.letsU | with_reducible apply Ok.elL | with_reducible apply Ok.elR | ((with_reducible apply Ok.gdT); · exact bI_nar _)))
      exact Ok.ret (by rw [bs, c1, nI_1]; rfl)
    · by_cases c2 : wAge W i h < wAge W p h
      · (repeat (first | ((with_reducible apply Ok.step); · ((try simp (disch := omega) only [↓reduceIte, Option.bind_some, Sum.elim_inl, Sum.elim_inr, if_true, if_false, rd_nI, wr_nI, rd_z, rd_o, wr_z, wr_o, nI_1, nI_add, pk_mul, nI_leI, nI_ltI, nI_eq, z_le, le_z, z_lt, lt_z, eq_z, eq_o, le_o, o_le, lt_o, o_lt, eq_m1, eq_m2, m1_eq, m2_eq, m1_lt, m1_le, o_z, z_o, m1_z, m1_o, m2_z, m2_o, m2_m1, z_lz, z_lo, o_lz, o_ez, z_ez, z_eo, m2_lt, m2_le, leF, leT, ltF, ltT, eqF, eqT, bI_z, bI_o, sh1, sh0, not_true_eq_false, not_false_eq_true, ne_eq, Bool.true_eq_false, Bool.false_eq_true, true_and, and_true, false_and, and_false, l_2, l_3, l_4, l_5, l_6, l_7, l_8, l_9, l_10, l_11, l_12, l_13, l_14, l_15, l_16, l_17, l_18, l_19, l_20, l_21, l_22, l_23, l_24, l_25, l_26, l_27, l_28, l_29, l_30, l_32, l_33, l_34, l_35, l_36, l_37, l_38, l_39, l_50, l_60, l_99, l_100, l_150, l_160, l_240, l_250, l_300, l_400, l_402, l_403, l_420, l_500, l_600, l_840, l_1000, l_1024, l_2000, l_2047, l_2048, l_10000, l_25600, l_500000, g_n hC, c_hasBit, bt_lt, c1, c_ageAt hC hW, c2]); with_reducible exact rfl)) | ((with_reducible apply Ok.ifT); · (first | (simp (disch := omega) only [↓reduceIte, Option.bind_some, Sum.elim_inl, Sum.elim_inr, if_true, if_false, rd_nI, wr_nI, rd_z, rd_o, wr_z, wr_o, nI_1, nI_add, pk_mul, nI_leI, nI_ltI, nI_eq, z_le, le_z, z_lt, lt_z, eq_z, eq_o, le_o, o_le, lt_o, o_lt, eq_m1, eq_m2, m1_eq, m2_eq, m1_lt, m1_le, o_z, z_o, m1_z, m1_o, m2_z, m2_o, m2_m1, z_lz, z_lo, o_lz, o_ez, z_ez, z_eo, m2_lt, m2_le, leF, leT, ltF, ltT, eqF, eqT, bI_z, bI_o, sh1, sh0, not_true_eq_false, not_false_eq_true, ne_eq, Bool.true_eq_false, Bool.false_eq_true, true_and, and_true, false_and, and_false, l_2, l_3, l_4, l_5, l_6, l_7, l_8, l_9, l_10, l_11, l_12, l_13, l_14, l_15, l_16, l_17, l_18, l_19, l_20, l_21, l_22, l_23, l_24, l_25, l_26, l_27, l_28, l_29, l_30, l_32, l_33, l_34, l_35, l_36, l_37, l_38, l_39, l_50, l_60, l_99, l_100, l_150, l_160, l_240, l_250, l_300, l_400, l_402, l_403, l_420, l_500, l_600, l_840, l_1000, l_1024, l_2000, l_2047, l_2048, l_10000, l_25600, l_500000, g_n hC, c_hasBit, bt_lt, c1, c_ageAt hC hW, c2]; done) | omega)) | ((with_reducible apply Ok.ifF); · (first | (simp (disch := omega) only [↓reduceIte, Option.bind_some, Sum.elim_inl, Sum.elim_inr, if_true, if_false, rd_nI, wr_nI, rd_z, rd_o, wr_z, wr_o, nI_1, nI_add, pk_mul, nI_leI, nI_ltI, nI_eq, z_le, le_z, z_lt, lt_z, eq_z, eq_o, le_o, o_le, lt_o, o_lt, eq_m1, eq_m2, m1_eq, m2_eq, m1_lt, m1_le, o_z, z_o, m1_z, m1_o, m2_z, m2_o, m2_m1, z_lz, z_lo, o_lz, o_ez, z_ez, z_eo, m2_lt, m2_le, leF, leT, ltF, ltT, eqF, eqT, bI_z, bI_o, sh1, sh0, not_true_eq_false, not_false_eq_true, ne_eq, Bool.true_eq_false, Bool.false_eq_true, true_and, and_true, false_and, and_false, l_2, l_3, l_4, l_5, l_6, l_7, l_8, l_9, l_10, l_11, l_12, l_13, l_14, l_15, l_16, l_17, l_18, l_19, l_20, l_21, l_22, l_23, l_24, l_25, l_26, l_27, l_28, l_29, l_30, l_32, l_33, l_34, l_35, l_36, l_37, l_38, l_39, l_50, l_60, l_99, l_100, l_150, l_160, l_240, l_250, l_300, l_400, l_402, l_403, l_420, l_500, l_600, l_840, l_1000, l_1024, l_2000, l_2047, l_2048, l_10000, l_25600, l_500000, g_n hC, c_hasBit, bt_lt, c1, c_ageAt hC hW, c2]; done) | omega)) | with_reducible apply Ok.jnU | with_reducible apply Ok.letsU | with_reducible apply Ok.elL | with_reducible apply Ok.elR | ((with_reducible apply Ok.gdT); · exact bI_nar _)))
        exact Ok.ret (by rw [bs, c1, nI_1, if_pos (by simp [c2])])
      · (repeat (first | ((with_reducible apply Ok.step); · ((try simp (disch := omega) only [↓reduceIte, Option.bind_some, Sum.elim_inl, Sum.elim_inr, if_true, if_false, rd_nI, wr_nI, rd_z, rd_o, wr_z, wr_o, nI_1, nI_add, pk_mul, nI_leI, nI_ltI, nI_eq, z_le, le_z, z_lt, lt_z, eq_z, eq_o, le_o, o_le, lt_o, o_lt, eq_m1, eq_m2, m1_eq, m2_eq, m1_lt, m1_le, o_z, z_o, m1_z, m1_o, m2_z, m2_o, m2_m1, z_lz, z_lo, o_lz, o_ez, z_ez, z_eo, m2_lt, m2_le, leF, leT, ltF, ltT, eqF, eqT, bI_z, bI_o, sh1, sh0, not_true_eq_false, not_false_eq_true, ne_eq, Bool.true_eq_false, Bool.false_eq_true, true_and, and_true, false_and, and_false, l_2, l_3, l_4, l_5, l_6, l_7, l_8, l_9, l_10, l_11, l_12, l_13, l_14, l_15, l_16, l_17, l_18, l_19, l_20, l_21, l_22, l_23, l_24, l_25, l_26, l_27, l_28, l_29, l_30, l_32, l_33, l_34, l_35, l_36, l_37, l_38, l_39, l_50, l_60, l_99, l_100, l_150, l_160, l_240, l_250, l_300, l_400, l_402, l_403, l_420, l_500, l_600, l_840, l_1000, l_1024, l_2000, l_2047, l_2048, l_10000, l_25600, l_500000, g_n hC, c_hasBit, bt_lt, c1, c_ageAt hC hW, c2]); with_reducible exact rfl)) | ((with_reducible apply Ok.ifT); · (first | (simp (disch := omega) only [↓reduceIte, Option.bind_some, Sum.elim_inl, Sum.elim_inr, if_true, if_false, rd_nI, wr_nI, rd_z, rd_o, wr_z, wr_o, nI_1, nI_add, pk_mul, nI_leI, nI_ltI, nI_eq, z_le, le_z, z_lt, lt_z, eq_z, eq_o, le_o, o_le, lt_o, o_lt, eq_m1, eq_m2, m1_eq, m2_eq, m1_lt, m1_le, o_z, z_o, m1_z, m1_o, m2_z, m2_o, m2_m1, z_lz, z_lo, o_lz, o_ez, z_ez, z_eo, m2_lt, m2_le, leF, leT, ltF, ltT, eqF, eqT, bI_z, bI_o, sh1, sh0, not_true_eq_false, not_false_eq_true, ne_eq, Bool.true_eq_false, Bool.false_eq_true, true_and, and_true, false_and, and_false, l_2, l_3, l_4, l_5, l_6, l_7, l_8, l_9, l_10, l_11, l_12, l_13, l_14, l_15, l_16, l_17, l_18, l_19, l_20, l_21, l_22, l_23, l_24, l_25, l_26, l_27, l_28, l_29, l_30, l_32, l_33, l_34, l_35, l_36, l_37, l_38, l_39, l_50, l_60, l_99, l_100, l_150, l_160, l_240, l_250, l_300, l_400, l_402, l_403, l_420, l_500, l_600, l_840, l_1000, l_1024, l_2000, l_2047, l_2048, l_10000, l_25600, l_500000, g_n hC, c_hasBit, bt_lt, c1, c_ageAt hC hW, c2]; done) | omega)) | ((with_reducible apply Ok.ifF); · (first | (simp (disch := omega) only [↓reduceIte, Option.bind_some, Sum.elim_inl, Sum.elim_inr, if_true, if_false, rd_nI, wr_nI, rd_z, rd_o, wr_z, wr_o, nI_1, nI_add, pk_mul, nI_leI, nI_ltI, nI_eq, z_le, le_z, z_lt, lt_z, eq_z, eq_o, le_o, o_le, lt_o, o_lt, eq_m1, eq_m2, m1_eq, m2_eq, m1_lt, m1_le, o_z, z_o, m1_z, m1_o, m2_z, m2_o, m2_m1, z_lz, z_lo, o_lz, o_ez, z_ez, z_eo, m2_lt, m2_le, leF, leT, ltF, ltT, eqF, eqT, bI_z, bI_o, sh1, sh0, not_true_eq_false, not_false_eq_true, ne_eq, Bool.true_eq_false, Bool.false_eq_true, true_and, and_true, false_and, and_false, l_2, l_3, l_4, l_5, l_6, l_7, l_8, l_9, l_10, l_11, l_12, l_13, l_14, l_15, l_16, l_17, l_18, l_19, l_20, l_21, l_22, l_23, l_24, l_25, l_26, l_27, l_28, l_29, l_30, l_32, l_33, l_34, l_35, l_36, l_37, l_38, l_39, l_50, l_60, l_99, l_100, l_150, l_160, l_240, l_250, l_300, l_400, l_402, l_403, l_420, l_500, l_600, l_840, l_1000, l_1024, l_2000, l_2047, l_2048, l_10000, l_25600, l_500000, g_n hC, c_hasBit, bt_lt, c1, c_ageAt hC hW, c2]; done) | omega)) | with_reducible apply Ok.jnU | with_reducible apply Ok.letsU | with_reducible apply Ok.elL | with_reducible apply Ok.elR | ((with_reducible apply Ok.gdT); · exact bI_nar _)))
        exact Ok.ret (by rw [bs, c1, nI_1, if_neg (by simp [c2])])
  · (repeat (first | ((with_reducible apply Ok.step); · ((try simp (disch := omega) only [↓reduceIte, Option.bind_some, Sum.elim_inl, Sum.elim_inr, if_true, if_false, rd_nI, wr_nI, rd_z, rd_o, wr_z, wr_o, nI_1, nI_add, pk_mul, nI_leI, nI_ltI, nI_eq, z_le, le_z, z_lt, lt_z, eq_z, eq_o, le_o, o_le, lt_o, o_lt, eq_m1, eq_m2, m1_eq, m2_eq, m1_lt, m1_le, o_z, z_o, m1_z, m1_o, m2_z, m2_o, m2_m1, z_lz, z_lo, o_lz, o_ez, z_ez, z_eo, m2_lt, m2_le, leF, leT, ltF, ltT, eqF, eqT, bI_z, bI_o, sh1, sh0, not_true_eq_false, not_false_eq_true, ne_eq, Bool.true_eq_false, Bool.false_eq_true, true_and, and_true, false_and, and_false, l_2, l_3, l_4, l_5, l_6, l_7, l_8, l_9, l_10, l_11, l_12, l_13, l_14, l_15, l_16, l_17, l_18, l_19, l_20, l_21, l_22, l_23, l_24, l_25, l_26, l_27, l_28, l_29, l_30, l_32, l_33, l_34, l_35, l_36, l_37, l_38, l_39, l_50, l_60, l_99, l_100, l_150, l_160, l_240, l_250, l_300, l_400, l_402, l_403, l_420, l_500, l_600, l_840, l_1000, l_1024, l_2000, l_2047, l_2048, l_10000, l_25600, l_500000, g_n hC]); with_reducible exact rfl)) | ((with_reducible apply Ok.ifT); · (first | (simp (disch := omega) only [↓reduceIte, Option.bind_some, Sum.elim_inl, Sum.elim_inr, if_true, if_false, rd_nI, wr_nI, rd_z, rd_o, wr_z, wr_o, nI_1, nI_add, pk_mul, nI_leI, nI_ltI, nI_eq, z_le, le_z, z_lt, lt_z, eq_z, eq_o, le_o, o_le, lt_o, o_lt, eq_m1, eq_m2, m1_eq, m2_eq, m1_lt, m1_le, o_z, z_o, m1_z, m1_o, m2_z, m2_o, m2_m1, z_lz, z_lo, o_lz, o_ez, z_ez, z_eo, m2_lt, m2_le, leF, leT, ltF, ltT, eqF, eqT, bI_z, bI_o, sh1, sh0, not_true_eq_false, not_false_eq_true, ne_eq, Bool.true_eq_false, Bool.false_eq_true, true_and, and_true, false_and, and_false, l_2, l_3, l_4, l_5, l_6, l_7, l_8, l_9, l_10, l_11, l_12, l_13, l_14, l_15, l_16, l_17, l_18, l_19, l_20, l_21, l_22, l_23, l_24, l_25, l_26, l_27, l_28, l_29, l_30, l_32, l_33, l_34, l_35, l_36, l_37, l_38, l_39, l_50, l_60, l_99, l_100, l_150, l_160, l_240, l_250, l_300, l_400, l_402, l_403, l_420, l_500, l_600, l_840, l_1000, l_1024, l_2000, l_2047, l_2048, l_10000, l_25600, l_500000, g_n hC]; done) | omega)) | ((with_reducible apply Ok.ifF); · (first | (simp (disch := omega) only [↓reduceIte, Option.bind_some, Sum.elim_inl, Sum.elim_inr, if_true, if_false, rd_nI, wr_nI, rd_z, rd_o, wr_z, wr_o, nI_1, nI_add, pk_mul, nI_leI, nI_ltI, nI_eq, z_le, le_z, z_lt, lt_z, eq_z, eq_o, le_o, o_le, lt_o, o_lt, eq_m1, eq_m2, m1_eq, m2_eq, m1_lt, m1_le, o_z, z_o, m1_z, m1_o, m2_z, m2_o, m2_m1, z_lz, z_lo, o_lz, o_ez, z_ez, z_eo, m2_lt, m2_le, leF, leT, ltF, ltT, eqF, eqT, bI_z, bI_o, sh1, sh0, not_true_eq_false, not_false_eq_true, ne_eq, Bool.true_eq_false, Bool.false_eq_true, true_and, and_true, false_and, and_false, l_2, l_3, l_4, l_5, l_6, l_7, l_8, l_9, l_10, l_11, l_12, l_13, l_14, l_15, l_16, l_17, l_18, l_19, l_20, l_21, l_22, l_23, l_24, l_25, l_26, l_27, l_28, l_29, l_30, l_32, l_33, l_34, l_35, l_36, l_37, l_38, l_39, l_50, l_60, l_99, l_100, l_150, l_160, l_240, l_250, l_300, l_400, l_402, l_403, l_420, l_500, l_600, l_840, l_1000, l_1024, l_2000, l_2047, l_2048, l_10000, l_25600, l_500000, g_n hC]; done) | omega)) | with_reducible apply Ok.jnU | with_reducible apply Ok.letsU | with_reducible apply Ok.elL | with_reducible apply Ok.elR | ((with_reducible apply Ok.gdT); · exact bI_nar _)))
    exact Ok.ret rfl
theorem q_below (hI : IV W V tw en sd P N H S) (hn : 30000 ≤ n) (x y : Int32) : ∃ v S2, E_X11_below n S tw x y = some v ∧ E_X12_below n S x y = some (v, S2) ∧ IV W V tw en sd P N H S2 ∧ Df XQA S S2 := by
  have hI0 := hI
  obtain ⟨hW, hPW, hHW, hC, hR⟩ := hI
  have hm1 : W 0 1 ≤ 10 := hW.mx (k := 1) (by decide)
  unfold E_X11_below E_X12_below
  rw [c_v1 hC.1 hW, Option.bind_some, r_vP hR.1 hW, Option.bind_some]
  cases c1 : vB x (W 0 1)
  · exact ⟨-1, S, rfl, rfl, hI0, Df.refl _ _⟩
  rw [if_neg (by decide), if_neg (by decide), c_vH, Option.bind_some, r_vH, Option.bind_some]
  cases c2 : vB y 24
  · exact ⟨-1, S, rfl, rfl, hI0, Df.refl _ _⟩
  obtain ⟨p, hp, rfl⟩ := vB_t (by omega) c1
  obtain ⟨h, hh, rfl⟩ := vB_t (by omega) c2
  have d : Df XSR S (upI S 95 61 0) := XSR_up (Df.refl _ _) (by omega)
  have hR2 : RI W V sd P N H (upI S 95 61 0) := hR.dfS d (by rw [upI_at, if_pos ⟨rfl, rfl⟩]) (by rw [upI_at, if_neg (by omega)]; exact hR.2.2.2.2.2)
  rw [if_neg (by decide), if_neg (by decide), c_young hC.1 hW hn hp hh]
  simp only [lets]
  rw [r_young hR2.1 hW hn hR2.2.2.2.2.1 hp hh]
  exact ⟨_, _, rfl, rfl, ⟨hW, hPW, hHW, hC.dfR (XSR_XRf d), hR2⟩, XSR_XQA d⟩
/-- the first to whom one may say, by the reference -/
theorem r_firstMay (hR : RRep W sd S) (hL : RLw V W sd S) (hW : WF W) (hn : 30000 ≤ n) (hD : S.1 95 61 = 0) {p h : Nat} (hp : p < W 0 1) (hh : h < 24) : Ok ((iter (fun (s8 : Int32 × ST) => (E_X12_has n s8.2 (1 : Int32)).bind fun v9 => if v9 ≤ s8.1 then some (.inr (.inl s8.2)) else (E_X12_mayBy n s8.2 (nI p) s8.1 (nI h) (0 : Int32) (0 : Int32)).bind fun v11 => if v11.1 = 0 then some (.inl ((s8.1 + (1 : Int32)), v11.2)) else some (.inr (.inr (s8.1, v11.2)))) n ((0 : Int32), S)).bind fun (z8 : (ST) ⊕ (Int32 × ST)) => Sum.elim (fun (e8 : ST) => some ((-2 : Int32), e8)) (fun (v : (Int32 × ST)) => some v) z8) (fun r => r.1 = ((srch (fun o => wMay W V nD p o h 0) 0 (W 0 1)).elim (-2) nI) ∧ Df XM S r.2) := by
  have hm1 : W 0 1 ≤ 10 := hW.mx (k := 1) (by decide)
  refine bindL (fun i q => q.1 = nI i ∧ Df XM S q.2 ∧ ∀ j, j < i → wMay W V nD p j h 0 = false)
    (Sum.elim (fun S' => Df XM S S' ∧ srch (fun o => wMay W V nD p o h 0) 0 (W 0 1) = none) (fun r => r.1 = ((srch (fun o => wMay W V nD p o h 0) 0 (W 0 1)).elim (-2) nI) ∧ Df XM S r.2)) 0 (W 0 1) (Nat.zero_le _) (by omega) ⟨rfl, Df.refl _ _, fun j hj => absurd hj (by omega)⟩ ?_ ?_ ?_
  · rintro i ⟨x, S1⟩ _ hi ⟨rfl, d1, hf⟩
    dsimp only at d1 ⊢
    obtain ⟨⟨v, S2⟩, e2, h2, d2⟩ := r_may0 (XM_R hR d1) hW (XM_L hL d1) hn hp hi (h := h) (by omega)
    dsimp only at h2 d2
    rw [XM_D d1, hD, bt0] at h2
    have h3 : v = bI (wMay W V nD p i h 0) := h2
    subst h3
    apply Ok.step (r_h1 (XM_R hR d1))
    refine Ok.ifF (by simp (disch := omega) only [↓reduceIte, Option.bind_some, jn, lets, Sum.elim_inl, Sum.elim_inr, if_true, if_false, rd_nI, wr_nI, rd_z, rd_o, wr_z, wr_o, nI_1, nI_add, pk_mul, nI_leI, nI_ltI, nI_eq, z_le, le_z, z_lt, lt_z, eq_z, eq_o, le_o, o_le, lt_o, o_lt, eq_m1, eq_m2, m1_eq, m2_eq, m1_lt, m1_le, o_z, z_o, m1_z, m1_o, m2_z, m2_o, m2_m1, z_lz, z_lo, o_lz, o_ez, z_ez, z_eo, m2_lt, m2_le, leF, leT, ltF, ltT, eqF, eqT, bI_z, bI_o, sh1, sh0, not_true_eq_false, not_false_eq_true, ne_eq, Bool.true_eq_false, Bool.false_eq_true, true_and, and_true, false_and, and_false, l_2, l_3, l_4, l_5, l_6, l_7, l_8, l_9, l_10, l_11, l_12, l_13, l_14, l_15, l_16, l_17, l_18, l_19, l_20, l_21, l_22, l_23, l_24, l_25, l_26, l_27, l_28, l_29, l_30, l_32, l_33, l_34, l_35, l_36, l_37, l_38, l_39, l_50, l_60, l_99, l_100, l_150, l_160, l_240, l_250, l_300, l_400, l_402, l_403, l_420, l_500, l_600, l_840, l_1000, l_1024, l_2000, l_2047, l_2048, l_10000, l_25600, l_500000]) ?_
    apply Ok.step e2
    cases c : wMay W V nD p i h 0
    · refine Ok.ifT rfl (Ok.inl ⟨nI_1 _, d1.trans d2, fun j hj => ?_⟩)
      by_cases e : j = i
      · subst e; exact c
      · exact hf j (by omega)
    · refine Ok.ifF (show ¬ bI true = 0 by decide) (Ok.inr ⟨?_, d1.trans d2⟩)
      rw [srch_of (Nat.zero_le i) (by omega) c (fun k _ hk => hf k hk)]
      rfl
  · rintro ⟨x, S1⟩ ⟨rfl, d1, hf⟩
    dsimp only at d1 ⊢
    apply Ok.step (r_h1 (XM_R hR d1))
    refine Ok.ifT (by simp (disch := omega) only [↓reduceIte, Option.bind_some, jn, lets, Sum.elim_inl, Sum.elim_inr, if_true, if_false, rd_nI, wr_nI, rd_z, rd_o, wr_z, wr_o, nI_1, nI_add, pk_mul, nI_leI, nI_ltI, nI_eq, z_le, le_z, z_lt, lt_z, eq_z, eq_o, le_o, o_le, lt_o, o_lt, eq_m1, eq_m2, m1_eq, m2_eq, m1_lt, m1_le, o_z, z_o, m1_z, m1_o, m2_z, m2_o, m2_m1, z_lz, z_lo, o_lz, o_ez, z_ez, z_eo, m2_lt, m2_le, leF, leT, ltF, ltT, eqF, eqT, bI_z, bI_o, sh1, sh0, not_true_eq_false, not_false_eq_true, ne_eq, Bool.true_eq_false, Bool.false_eq_true, true_and, and_true, false_and, and_false, l_2, l_3, l_4, l_5, l_6, l_7, l_8, l_9, l_10, l_11, l_12, l_13, l_14, l_15, l_16, l_17, l_18, l_19, l_20, l_21, l_22, l_23, l_24, l_25, l_26, l_27, l_28, l_29, l_30, l_32, l_33, l_34, l_35, l_36, l_37, l_38, l_39, l_50, l_60, l_99, l_100, l_150, l_160, l_240, l_250, l_300, l_400, l_402, l_403, l_420, l_500, l_600, l_840, l_1000, l_1024, l_2000, l_2047, l_2048, l_10000, l_25600, l_500000]) ?_
    refine Ok.inr ⟨d1, ?_⟩
    cases c : srch (fun o => wMay W V nD p o h 0) 0 (W 0 1) with
    | none => rfl
    | some j =>
      obtain ⟨h3, h4, h5, h6⟩ := srch_some c
      rw [hf j (by omega)] at h5; cases h5
  · rintro (S1 | ⟨v, S1⟩) hq
    · exact ⟨_, rfl, by rw [hq.2]; rfl, hq.1⟩
    · exact ⟨_, rfl, hq.1, hq.2⟩
theorem q_secret (hI : IV W V tw en sd P N H S) (hn : 30000 ≤ n) (x y : Int32) : ∃ v S2, E_X11_secret n S tw x y = some v ∧ E_X12_secret n S x y = some (v, S2) ∧ IV W V tw en sd P N H S2 ∧ Df XQA S S2 := by
  have hI0 := hI
  obtain ⟨hW, hPW, hHW, hC, hR⟩ := hI
  have hm1 : W 0 1 ≤ 10 := hW.mx (k := 1) (by decide)
  unfold E_X11_secret E_X12_secret
  rw [c_v1 hC.1 hW, Option.bind_some, r_vP hR.1 hW, Option.bind_some]
  cases c1 : vB x (W 0 1)
  · exact ⟨-1, S, rfl, rfl, hI0, Df.refl _ _⟩
  rw [if_neg (by decide), if_neg (by decide), c_vH, Option.bind_some, r_vH, Option.bind_some]
  cases c2 : vB y 24
  · exact ⟨-1, S, rfl, rfl, hI0, Df.refl _ _⟩
  obtain ⟨p, hp, rfl⟩ := vB_t (by omega) c1
  obtain ⟨h, hh, rfl⟩ := vB_t (by omega) c2
  have d : Df XSR S (upI S 95 61 0) := XSR_up (Df.refl _ _) (by omega)
  have hR2 : RI W V sd P N H (upI S 95 61 0) := hR.dfS d (by rw [upI_at, if_pos ⟨rfl, rfl⟩]) (by rw [upI_at, if_neg (by omega)]; exact hR.2.2.2.2.2)
  rw [if_neg (by decide), if_neg (by decide), c_sayTo hC.1 hW hp hh, Option.bind_some, c_young hC.1 hW hn hp hh, Option.bind_some]
  simp only [lets]
  rw [r_young hR2.1 hW hn hR2.2.2.2.2.1 hp hh, Option.bind_some]
  have fin : ∀ S2, Df XM (upI S 95 61 0) S2 → IV W V tw en sd P N H S2 ∧ Df XQA S S2 := fun S2 d2 => by
    have d3 := XM_XSR d2
    exact ⟨⟨hW, hPW, hHW, (hC.dfR (XSR_XRf d)).dfR (XSR_XRf d3), hR2.dfS d3 (by rw [d2.2 _ _ rfl]; exact hR2.2.2.2.2.1) (by rw [d2.2 _ _ rfl]; exact hR2.2.2.2.2.2)⟩, (XSR_XQA d).trans (XSR_XQA d3)⟩
  by_cases c5 : wYoung W p h = 0
  · rw [if_pos c5, if_pos c5]
    obtain ⟨⟨v, S2⟩, e2, h2, d2⟩ := r_firstMay (S := upI S 95 61 0) hR2.1 hR2.2.1 hW hn hR2.2.2.2.2.1 hp hh
    rw [e2]
    dsimp only at h2 d2
    refine ⟨v, S2, ?_, rfl, fin S2 d2⟩
    subst h2
    cases c6 : srch (fun o => wMay W V nD p o h 0) 0 (W 0 1) with
    | none =>
      have h1 := srch_none c6
      rw [if_pos]
      · rfl
      · rw [bs_z (by omega), anyN_f]
        exact fun i hi => h1 i (Nat.zero_le _) (by omega)
    | some i =>
      obtain ⟨h3, h4, h5, h6⟩ := srch_some c6
      rw [if_neg, c_tz hm1 (i := i) (by omega) h5 (fun j hj => h6 j (Nat.zero_le _) hj)]
      · rfl
      · rw [bs_z (by omega), Bool.not_eq_false, anyN_iff]
        exact ⟨i, by omega, h5⟩
  · rw [if_neg c5, if_neg c5]
    refine ⟨-2, _, ?_, rfl, fin _ (Df.refl _ _)⟩
    split <;> rfl
theorem r_speaks (hR : RRep W sd S) (hL : RLw V W sd S) (hW : WF W) (hn : 30000 ≤ n) {p h l : Nat} (hp : p < W 0 1) (hh : h < 1000) (hl : l < 4) : Ok (E_X12_speaks n S (nI p) (nI h) (nI l)) (fun r => r.1 = bI (wSpkL W V (bt (S.1 95 61)) p h l) ∧ Df XM S r.2) := by
  have hm1 : W 0 1 ≤ 10 := hW.mx (k := 1) (by decide)
  unfold E_X12_speaks
  generalize hDD : bt (S.1 95 61) = D
  refine bindL (fun i q => q.1 = nI i ∧ Df XM S q.2 ∧ ∀ j, j < i → wMayL W V D p j h 0 l = false)
    (Sum.elim (fun S' => Df XM S S' ∧ wSpkL W V D p h l = false) (fun r => r.1 = 1 ∧ wSpkL W V D p h l = true ∧ Df XM S r.2)) 0 (W 0 1) (Nat.zero_le _) (by omega) ⟨rfl, Df.refl _ _, fun j hj => absurd hj (by omega)⟩ ?_ ?_ ?_
  · rintro i ⟨x, S1⟩ _ hi ⟨rfl, d1, hf⟩
    dsimp only at d1 ⊢
    obtain ⟨⟨v, S2⟩, e2, h2, d2⟩ := r_mayBy (s := 0) (l := l) (XM_R hR d1) hW (XM_L hL d1) hn hp hi hh (by decide) hl
    dsimp only at h2 d2
    rw [XM_D d1, hDD] at h2
    subst h2
    rw [nI_0] at e2
    apply Ok.step (r_h1 (XM_R hR d1))
    refine Ok.ifF (by simp (disch := omega) only [↓reduceIte, Option.bind_some, jn, lets, Sum.elim_inl, Sum.elim_inr, if_true, if_false, rd_nI, wr_nI, rd_z, rd_o, wr_z, wr_o, nI_1, nI_add, pk_mul, nI_leI, nI_ltI, nI_eq, z_le, le_z, z_lt, lt_z, eq_z, eq_o, le_o, o_le, lt_o, o_lt, eq_m1, eq_m2, m1_eq, m2_eq, m1_lt, m1_le, o_z, z_o, m1_z, m1_o, m2_z, m2_o, m2_m1, z_lz, z_lo, o_lz, o_ez, z_ez, z_eo, m2_lt, m2_le, leF, leT, ltF, ltT, eqF, eqT, bI_z, bI_o, sh1, sh0, not_true_eq_false, not_false_eq_true, ne_eq, Bool.true_eq_false, Bool.false_eq_true, true_and, and_true, false_and, and_false, l_2, l_3, l_4, l_5, l_6, l_7, l_8, l_9, l_10, l_11, l_12, l_13, l_14, l_15, l_16, l_17, l_18, l_19, l_20, l_21, l_22, l_23, l_24, l_25, l_26, l_27, l_28, l_29, l_30, l_32, l_33, l_34, l_35, l_36, l_37, l_38, l_39, l_50, l_60, l_99, l_100, l_150, l_160, l_240, l_250, l_300, l_400, l_402, l_403, l_420, l_500, l_600, l_840, l_1000, l_1024, l_2000, l_2047, l_2048, l_10000, l_25600, l_500000]) ?_
    apply Ok.step e2
    cases c : wMayL W V D p i h 0 l
    · refine Ok.ifT rfl (Ok.inl ⟨nI_1 _, d1.trans d2, fun j hj => ?_⟩)
      by_cases e : j = i
      · subst e; exact c
      · exact hf j (by omega)
    · refine Ok.ifF (show ¬ bI true = 0 by decide) (Ok.inr ⟨rfl, anyN_iff.mpr ⟨i, hi, c⟩, d1.trans d2⟩)
  · rintro ⟨x, S1⟩ ⟨rfl, d1, hf⟩
    dsimp only at d1 ⊢
    apply Ok.step (r_h1 (XM_R hR d1))
    refine Ok.ifT (by simp (disch := omega) only [↓reduceIte, Option.bind_some, jn, lets, Sum.elim_inl, Sum.elim_inr, if_true, if_false, rd_nI, wr_nI, rd_z, rd_o, wr_z, wr_o, nI_1, nI_add, pk_mul, nI_leI, nI_ltI, nI_eq, z_le, le_z, z_lt, lt_z, eq_z, eq_o, le_o, o_le, lt_o, o_lt, eq_m1, eq_m2, m1_eq, m2_eq, m1_lt, m1_le, o_z, z_o, m1_z, m1_o, m2_z, m2_o, m2_m1, z_lz, z_lo, o_lz, o_ez, z_ez, z_eo, m2_lt, m2_le, leF, leT, ltF, ltT, eqF, eqT, bI_z, bI_o, sh1, sh0, not_true_eq_false, not_false_eq_true, ne_eq, Bool.true_eq_false, Bool.false_eq_true, true_and, and_true, false_and, and_false, l_2, l_3, l_4, l_5, l_6, l_7, l_8, l_9, l_10, l_11, l_12, l_13, l_14, l_15, l_16, l_17, l_18, l_19, l_20, l_21, l_22, l_23, l_24, l_25, l_26, l_27, l_28, l_29, l_30, l_32, l_33, l_34, l_35, l_36, l_37, l_38, l_39, l_50, l_60, l_99, l_100, l_150, l_160, l_240, l_250, l_300, l_400, l_402, l_403, l_420, l_500, l_600, l_840, l_1000, l_1024, l_2000, l_2047, l_2048, l_10000, l_25600, l_500000]) ?_
    exact Ok.inr ⟨d1, anyN_f.mpr hf⟩
  · rintro (S1 | ⟨v, S1⟩) hq
    · exact ⟨_, rfl, by rw [hq.2]; rfl, hq.1⟩
    · exact ⟨_, rfl, by rw [hq.2.1]; exact hq.1, hq.2.2⟩
/-- the first hour at which one is heard by all of a set -/
def wBestP (W : VW) (V : VL) (z : Int32) (p h : Nat) : Bool := wSpk W V p h && decide ((z &&& (bs (wHear W nD (wPl W p h) h) (W 0 1) ^^^ (-1 : Int32))) = 0)
theorem wBestP_t {z : Int32} {p h : Nat} (c6 : wSpk W V p h = true) (c5 : (z &&& (bs (wHear W nD (wPl W p h) h) (W 0 1) ^^^ (-1 : Int32))) = 0) : wBestP W V z p h = true := by unfold wBestP; rw [c6, decide_eq_true c5]; rfl
theorem wBestP_f {z : Int32} {p h : Nat} (c5 : ¬ (z &&& (bs (wHear W nD (wPl W p h) h) (W 0 1) ^^^ (-1 : Int32))) = 0) : wBestP W V z p h = false := by unfold wBestP; rw [decide_eq_false c5, Bool.and_false]
theorem q_best (hI : IV W V tw en sd P N H S) (hn : 30000 ≤ n) (x y z : Int32) : ∃ v S2, E_X11_best n S tw x y z = some v ∧ E_X12_best n S x y z = some (v, S2) ∧ IV W V tw en sd P N H S2 ∧ Df XQA S S2 := by
  have hI0 := hI
  obtain ⟨hW, hPW, hHW, hC, hR⟩ := hI
  have hm1 : W 0 1 ≤ 10 := hW.mx (k := 1) (by decide)
  have hm0 : W 0 0 ≤ 6 := hW.mx (k := 0) (by decide)
  unfold E_X11_best E_X12_best
  rw [c_v1 hC.1 hW, Option.bind_some, r_vP hR.1 hW, Option.bind_some]
  cases c1 : vB x (W 0 1)
  · exact ⟨-1, S, rfl, rfl, hI0, Df.refl _ _⟩
  rw [if_neg (by decide), if_neg (by decide), c_vH, Option.bind_some, r_vH, Option.bind_some]
  cases c2 : vB y 24
  · exact ⟨-1, S, rfl, rfl, hI0, Df.refl _ _⟩
  rw [if_neg (by decide), if_neg (by decide), c_vS hC.1 hW, Option.bind_some, r_vS hR.1 hW, Option.bind_some]
  cases c3 : vS z (W 0 1)
  · exact ⟨-1, S, rfl, rfl, hI0, Df.refl _ _⟩
  obtain ⟨p, hp, rfl⟩ := vB_t (by omega) c1
  obtain ⟨h0, hh, rfl⟩ := vB_t (by omega) c2
  have d : Df XSR S (upI S 95 61 0) := XSR_up (Df.refl _ _) (by omega)
  have hR2 : RI W V sd P N H (upI S 95 61 0) := hR.dfS d (by rw [upI_at, if_pos ⟨rfl, rfl⟩]) (by rw [upI_at, if_neg (by omega)]; exact hR.2.2.2.2.2)
  rw [if_neg (by decide), if_neg (by decide)]
  simp only [lets]
  have A : Ok ((iter (fun (s7 : Int32) => if (24 : Int32) ≤ s7 then some (.inr (.inl ())) else (E_X10_placeOf n S tw (nI p) s7).bind fun v9 => (E_X10_hearers n S tw v9 s7).bind fun v10 => jn (some (.inl (s7 + (1 : Int32)))) fun j11 => if (z &&& (v10 ^^^ (-1 : Int32))) = 0 then (E_X10_sayTo n S tw (nI p) s7).bind fun v13 => if v13 = 0 then j11 else some (.inr (.inr s7)) else j11) n (nI h0)).bind fun (z7 : (Unit) ⊕ Int32) => Sum.elim (fun (e7 : Unit) => some (-2 : Int32)) (fun (v : Int32) => some v) z7) (fun r => r = (srch (wBestP W V z p) h0 (24 - h0)).elim (-2) nI) := by
    refine bindS0 h0 24 (wBestP W V z p) (fun i => .inr (nI i)) (.inl ()) (by omega) (by omega) ?_ ?_ ?_ ?_
    · intro i _ hi
      by_cases c5 : (z &&& (bs (wHear W nD (wPl W p i) i) (W 0 1) ^^^ (-1 : Int32))) = 0
      · cases c6 : wSpk W V p i
        · have c7 : bs (fun o => wMay W V nD p o i 0) (W 0 1) = 0 := by
            rw [bs_z (by omega)]; exact c6
          (repeat (first | ((with_reducible apply Ok.step); · ((try simp (disch := omega) only [↓reduceIte, Option.bind_some, Sum.elim_inl, Sum.elim_inr, if_true, if_false, rd_nI, wr_nI, rd_z, rd_o, wr_z, wr_o, nI_1, nI_add, pk_mul, nI_leI, nI_ltI, nI_eq, z_le, le_z, z_lt, lt_z, eq_z, eq_o, le_o, o_le, lt_o, o_lt, eq_m1, eq_m2, m1_eq, m2_eq, m1_lt, m1_le, o_z, z_o, m1_z, m1_o, m2_z, m2_o, m2_m1, z_lz, z_lo, o_lz, o_ez, z_ez, z_eo, m2_lt, m2_le, leF, leT, ltF, ltT, eqF, eqT, bI_z, bI_o, sh1, sh0, not_true_eq_false, not_false_eq_true, ne_eq, Bool.true_eq_false, Bool.false_eq_true, true_and, and_true, false_and, and_false, l_2, l_3, l_4, l_5, l_6, l_7, l_8, l_9, l_10, l_11, l_12, l_13, l_14, l_15, l_16, l_17, l_18, l_19, l_20, l_21, l_22, l_23, l_24, l_25, l_26, l_27, l_28, l_29, l_30, l_32, l_33, l_34, l_35, l_36, l_37, l_38, l_39, l_50, l_60, l_99, l_100, l_150, l_160, l_240, l_250, l_300, l_400, l_402, l_403, l_420, l_500, l_600, l_840, l_1000, l_1024, l_2000, l_2047, l_2048, l_10000, l_25600, l_500000, c_placeOf hC.1 hW, c_hearers hC.1 hW, c5, c_sayTo hC.1 hW, c7]); with_reducible exact rfl)) | ((with_reducible apply Ok.ifT); · (first | (simp (disch := omega) only [↓reduceIte, Option.bind_some, Sum.elim_inl, Sum.elim_inr, if_true, if_false, rd_nI, wr_nI, rd_z, rd_o, wr_z, wr_o, nI_1, nI_add, pk_mul, nI_leI, nI_ltI, nI_eq, z_le, le_z, z_lt, lt_z, eq_z, eq_o, le_o, o_le, lt_o, o_lt, eq_m1, eq_m2, m1_eq, m2_eq, m1_lt, m1_le, o_z, z_o, m1_z, m1_o, m2_z, m2_o, m2_m1, z_lz, z_lo, o_lz, o_ez, z_ez, z_eo, m2_lt, m2_le, leF, leT, ltF, ltT, eqF, eqT, bI_z, bI_o, sh1, sh0, not_true_eq_false, not_false_eq_true, ne_eq, Bool.true_eq_false, Bool.false_eq_true, true_and, and_true, false_and, and_false, l_2, l_3, l_4, l_5, l_6, l_7, l_8, l_9, l_10, l_11, l_12, l_13, l_14, l_15, l_16, l_17, l_18, l_19, l_20, l_21, l_22, l_23, l_24, l_25, l_26, l_27, l_28, l_29, l_30, l_32, l_33, l_34, l_35, l_36, l_37, l_38, l_39, l_50, l_60, l_99, l_100, l_150, l_160, l_240, l_250, l_300, l_400, l_402, l_403, l_420, l_500, l_600, l_840, l_1000, l_1024, l_2000, l_2047, l_2048, l_10000, l_25600, l_500000, c_placeOf hC.1 hW, c_hearers hC.1 hW, c5, c_sayTo hC.1 hW, c7]; done) | omega)) | ((with_reducible apply Ok.ifF); · (first | (simp (disch := omega) only [↓reduceIte, Option.bind_some, Sum.elim_inl, Sum.elim_inr, if_true, if_false, rd_nI, wr_nI, rd_z, rd_o, wr_z, wr_o, nI_1, nI_add, pk_mul, nI_leI, nI_ltI, nI_eq, z_le, le_z, z_lt, lt_z, eq_z, eq_o, le_o, o_le, lt_o, o_lt, eq_m1, eq_m2, m1_eq, m2_eq, m1_lt, m1_le, o_z, z_o, m1_z, m1_o, m2_z, m2_o, m2_m1, z_lz, z_lo, o_lz, o_ez, z_ez, z_eo, m2_lt, m2_le, leF, leT, ltF, ltT, eqF, eqT, bI_z, bI_o, sh1, sh0, not_true_eq_false, not_false_eq_true, ne_eq, Bool.true_eq_false, Bool.false_eq_true, true_and, and_true, false_and, and_false, l_2, l_3, l_4, l_5, l_6, l_7, l_8, l_9, l_10, l_11, l_12, l_13, l_14, l_15, l_16, l_17, l_18, l_19, l_20, l_21, l_22, l_23, l_24, l_25, l_26, l_27, l_28, l_29, l_30, l_32, l_33, l_34, l_35, l_36, l_37, l_38, l_39, l_50, l_60, l_99, l_100, l_150, l_160, l_240, l_250, l_300, l_400, l_402, l_403, l_420, l_500, l_600, l_840, l_1000, l_1024, l_2000, l_2047, l_2048, l_10000, l_25600, l_500000, c_placeOf hC.1 hW, c_hearers hC.1 hW, c5, c_sayTo hC.1 hW, c7]; done) | omega)) | with_reducible apply Ok.jnU | with_reducible apply Ok.letsU | with_reducible apply Ok.elL | with_reducible apply Ok.elR | ((with_reducible apply Ok.gdT); · exact bI_nar _)))
          exact Ok.ret (by simp [wBestP, c6, nI_1])
        · have c7 : ¬ bs (fun o => wMay W V nD p o i 0) (W 0 1) = 0 := by
            rw [bs_z (by omega)]
            intro y
            have : wSpk W V p i = false := y
            rw [c6] at this; cases this
          (repeat (first | ((with_reducible apply Ok.step); · ((try simp (disch := omega) only [↓reduceIte, Option.bind_some, Sum.elim_inl, Sum.elim_inr, if_true, if_false, rd_nI, wr_nI, rd_z, rd_o, wr_z, wr_o, nI_1, nI_add, pk_mul, nI_leI, nI_ltI, nI_eq, z_le, le_z, z_lt, lt_z, eq_z, eq_o, le_o, o_le, lt_o, o_lt, eq_m1, eq_m2, m1_eq, m2_eq, m1_lt, m1_le, o_z, z_o, m1_z, m1_o, m2_z, m2_o, m2_m1, z_lz, z_lo, o_lz, o_ez, z_ez, z_eo, m2_lt, m2_le, leF, leT, ltF, ltT, eqF, eqT, bI_z, bI_o, sh1, sh0, not_true_eq_false, not_false_eq_true, ne_eq, Bool.true_eq_false, Bool.false_eq_true, true_and, and_true, false_and, and_false, l_2, l_3, l_4, l_5, l_6, l_7, l_8, l_9, l_10, l_11, l_12, l_13, l_14, l_15, l_16, l_17, l_18, l_19, l_20, l_21, l_22, l_23, l_24, l_25, l_26, l_27, l_28, l_29, l_30, l_32, l_33, l_34, l_35, l_36, l_37, l_38, l_39, l_50, l_60, l_99, l_100, l_150, l_160, l_240, l_250, l_300, l_400, l_402, l_403, l_420, l_500, l_600, l_840, l_1000, l_1024, l_2000, l_2047, l_2048, l_10000, l_25600, l_500000, c_placeOf hC.1 hW, c_hearers hC.1 hW, c5, c_sayTo hC.1 hW, c7]); with_reducible exact rfl)) | ((with_reducible apply Ok.ifT); · (first | (simp (disch := omega) only [↓reduceIte, Option.bind_some, Sum.elim_inl, Sum.elim_inr, if_true, if_false, rd_nI, wr_nI, rd_z, rd_o, wr_z, wr_o, nI_1, nI_add, pk_mul, nI_leI, nI_ltI, nI_eq, z_le, le_z, z_lt, lt_z, eq_z, eq_o, le_o, o_le, lt_o, o_lt, eq_m1, eq_m2, m1_eq, m2_eq, m1_lt, m1_le, o_z, z_o, m1_z, m1_o, m2_z, m2_o, m2_m1, z_lz, z_lo, o_lz, o_ez, z_ez, z_eo, m2_lt, m2_le, leF, leT, ltF, ltT, eqF, eqT, bI_z, bI_o, sh1, sh0, not_true_eq_false, not_false_eq_true, ne_eq, Bool.true_eq_false, Bool.false_eq_true, true_and, and_true, false_and, and_false, l_2, l_3, l_4, l_5, l_6, l_7, l_8, l_9, l_10, l_11, l_12, l_13, l_14, l_15, l_16, l_17, l_18, l_19, l_20, l_21, l_22, l_23, l_24, l_25, l_26, l_27, l_28, l_29, l_30, l_32, l_33, l_34, l_35, l_36, l_37, l_38, l_39, l_50, l_60, l_99, l_100, l_150, l_160, l_240, l_250, l_300, l_400, l_402, l_403, l_420, l_500, l_600, l_840, l_1000, l_1024, l_2000, l_2047, l_2048, l_10000, l_25600, l_500000, c_placeOf hC.1 hW, c_hearers hC.1 hW, c5, c_sayTo hC.1 hW, c7]; done) | omega)) | ((with_reducible apply Ok.ifF); · (first | (simp (disch := omega) only [↓reduceIte, Option.bind_some, Sum.elim_inl, Sum.elim_inr, if_true, if_false, rd_nI, wr_nI, rd_z, rd_o, wr_z, wr_o, nI_1, nI_add, pk_mul, nI_leI, nI_ltI, nI_eq, z_le, le_z, z_lt, lt_z, eq_z, eq_o, le_o, o_le, lt_o, o_lt, eq_m1, eq_m2, m1_eq, m2_eq, m1_lt, m1_le, o_z, z_o, m1_z, m1_o, m2_z, m2_o, m2_m1, z_lz, z_lo, o_lz, o_ez, z_ez, z_eo, m2_lt, m2_le, leF, leT, ltF, ltT, eqF, eqT, bI_z, bI_o, sh1, sh0, not_true_eq_false, not_false_eq_true, ne_eq, Bool.true_eq_false, Bool.false_eq_true, true_and, and_true, false_and, and_false, l_2, l_3, l_4, l_5, l_6, l_7, l_8, l_9, l_10, l_11, l_12, l_13, l_14, l_15, l_16, l_17, l_18, l_19, l_20, l_21, l_22, l_23, l_24, l_25, l_26, l_27, l_28, l_29, l_30, l_32, l_33, l_34, l_35, l_36, l_37, l_38, l_39, l_50, l_60, l_99, l_100, l_150, l_160, l_240, l_250, l_300, l_400, l_402, l_403, l_420, l_500, l_600, l_840, l_1000, l_1024, l_2000, l_2047, l_2048, l_10000, l_25600, l_500000, c_placeOf hC.1 hW, c_hearers hC.1 hW, c5, c_sayTo hC.1 hW, c7]; done) | omega)) | with_reducible apply Ok.jnU | with_reducible apply Ok.letsU | with_reducible apply Ok.elL | with_reducible apply Ok.elR | ((with_reducible apply Ok.gdT); · exact bI_nar _)))
          exact Ok.ret (by rw [if_pos (wBestP_t c6 c5)])
      · (repeat (first | ((with_reducible apply Ok.step); · ((try simp (disch := omega) only [↓reduceIte, Option.bind_some, Sum.elim_inl, Sum.elim_inr, if_true, if_false, rd_nI, wr_nI, rd_z, rd_o, wr_z, wr_o, nI_1, nI_add, pk_mul, nI_leI, nI_ltI, nI_eq, z_le, le_z, z_lt, lt_z, eq_z, eq_o, le_o, o_le, lt_o, o_lt, eq_m1, eq_m2, m1_eq, m2_eq, m1_lt, m1_le, o_z, z_o, m1_z, m1_o, m2_z, m2_o, m2_m1, z_lz, z_lo, o_lz, o_ez, z_ez, z_eo, m2_lt, m2_le, leF, leT, ltF, ltT, eqF, eqT, bI_z, bI_o, sh1, sh0, not_true_eq_false, not_false_eq_true, ne_eq, Bool.true_eq_false, Bool.false_eq_true, true_and, and_true, false_and, and_false, l_2, l_3, l_4, l_5, l_6, l_7, l_8, l_9, l_10, l_11, l_12, l_13, l_14, l_15, l_16, l_17, l_18, l_19, l_20, l_21, l_22, l_23, l_24, l_25, l_26, l_27, l_28, l_29, l_30, l_32, l_33, l_34, l_35, l_36, l_37, l_38, l_39, l_50, l_60, l_99, l_100, l_150, l_160, l_240, l_250, l_300, l_400, l_402, l_403, l_420, l_500, l_600, l_840, l_1000, l_1024, l_2000, l_2047, l_2048, l_10000, l_25600, l_500000, c_placeOf hC.1 hW, c_hearers hC.1 hW, c5]); with_reducible exact rfl)) | ((with_reducible apply Ok.ifT); · (first | (simp (disch := omega) only [↓reduceIte, Option.bind_some, Sum.elim_inl, Sum.elim_inr, if_true, if_false, rd_nI, wr_nI, rd_z, rd_o, wr_z, wr_o, nI_1, nI_add, pk_mul, nI_leI, nI_ltI, nI_eq, z_le, le_z, z_lt, lt_z, eq_z, eq_o, le_o, o_le, lt_o, o_lt, eq_m1, eq_m2, m1_eq, m2_eq, m1_lt, m1_le, o_z, z_o, m1_z, m1_o, m2_z, m2_o, m2_m1, z_lz, z_lo, o_lz, o_ez, z_ez, z_eo, m2_lt, m2_le, leF, leT, ltF, ltT, eqF, eqT, bI_z, bI_o, sh1, sh0, not_true_eq_false, not_false_eq_true, ne_eq, Bool.true_eq_false, Bool.false_eq_true, true_and, and_true, false_and, and_false, l_2, l_3, l_4, l_5, l_6, l_7, l_8, l_9, l_10, l_11, l_12, l_13, l_14, l_15, l_16, l_17, l_18, l_19, l_20, l_21, l_22, l_23, l_24, l_25, l_26, l_27, l_28, l_29, l_30, l_32, l_33, l_34, l_35, l_36, l_37, l_38, l_39, l_50, l_60, l_99, l_100, l_150, l_160, l_240, l_250, l_300, l_400, l_402, l_403, l_420, l_500, l_600, l_840, l_1000, l_1024, l_2000, l_2047, l_2048, l_10000, l_25600, l_500000, c_placeOf hC.1 hW, c_hearers hC.1 hW, c5]; done) | omega)) | ((with_reducible apply Ok.ifF); · (first | (simp (disch := omega) only [↓reduceIte, Option.bind_some, Sum.elim_inl, Sum.elim_inr, if_true, if_false, rd_nI, wr_nI, rd_z, rd_o, wr_z, wr_o, nI_1, nI_add, pk_mul, nI_leI, nI_ltI, nI_eq, z_le, le_z, z_lt, lt_z, eq_z, eq_o, le_o, o_le, lt_o, o_lt, eq_m1, eq_m2, m1_eq, m2_eq, m1_lt, m1_le, o_z, z_o, m1_z, m1_o, m2_z, m2_o, m2_m1, z_lz, z_lo, o_lz, o_ez, z_ez, z_eo, m2_lt, m2_le, leF, leT, ltF, ltT, eqF, eqT, bI_z, bI_o, sh1, sh0, not_true_eq_false, not_false_eq_true, ne_eq, Bool.true_eq_false, Bool.false_eq_true, true_and, and_true, false_and, and_false, l_2, l_3, l_4, l_5, l_6, l_7, l_8, l_9, l_10, l_11, l_12, l_13, l_14, l_15, l_16, l_17, l_18, l_19, l_20, l_21, l_22, l_23, l_24, l_25, l_26, l_27, l_28, l_29, l_30, l_32, l_33, l_34, l_35, l_36, l_37, l_38, l_39, l_50, l_60, l_99, l_100, l_150, l_160, l_240, l_250, l_300, l_400, l_402, l_403, l_420, l_500, l_600, l_840, l_1000, l_1024, l_2000, l_2047, l_2048, l_10000, l_25600, l_500000, c_placeOf hC.1 hW, c_hearers hC.1 hW, c5]; done) | omega)) | with_reducible apply Ok.jnU | with_reducible apply Ok.letsU | with_reducible apply Ok.elL | with_reducible apply Ok.elR | ((with_reducible apply Ok.gdT); · exact bI_nar _)))
        exact Ok.ret (by rw [wBestP_f c5, nI_1]; rfl)
    · (repeat (first | ((with_reducible apply Ok.step); · ((try simp (disch := omega) only [↓reduceIte, Option.bind_some, Sum.elim_inl, Sum.elim_inr, if_true, if_false, rd_nI, wr_nI, rd_z, rd_o, wr_z, wr_o, nI_1, nI_add, pk_mul, nI_leI, nI_ltI, nI_eq, z_le, le_z, z_lt, lt_z, eq_z, eq_o, le_o, o_le, lt_o, o_lt, eq_m1, eq_m2, m1_eq, m2_eq, m1_lt, m1_le, o_z, z_o, m1_z, m1_o, m2_z, m2_o, m2_m1, z_lz, z_lo, o_lz, o_ez, z_ez, z_eo, m2_lt, m2_le, leF, leT, ltF, ltT, eqF, eqT, bI_z, bI_o, sh1, sh0, not_true_eq_false, not_false_eq_true, ne_eq, Bool.true_eq_false, Bool.false_eq_true, true_and, and_true, false_and, and_false, l_2, l_3, l_4, l_5, l_6, l_7, l_8, l_9, l_10, l_11, l_12, l_13, l_14, l_15, l_16, l_17, l_18, l_19, l_20, l_21, l_22, l_23, l_24, l_25, l_26, l_27, l_28, l_29, l_30, l_32, l_33, l_34, l_35, l_36, l_37, l_38, l_39, l_50, l_60, l_99, l_100, l_150, l_160, l_240, l_250, l_300, l_400, l_402, l_403, l_420, l_500, l_600, l_840, l_1000, l_1024, l_2000, l_2047, l_2048, l_10000, l_25600, l_500000]); with_reducible exact rfl)) | ((with_reducible apply Ok.ifT); · (first | (simp (disch := omega) only [↓reduceIte, Option.bind_some, Sum.elim_inl, Sum.elim_inr, if_true, if_false, rd_nI, wr_nI, rd_z, rd_o, wr_z, wr_o, nI_1, nI_add, pk_mul, nI_leI, nI_ltI, nI_eq, z_le, le_z, z_lt, lt_z, eq_z, eq_o, le_o, o_le, lt_o, o_lt, eq_m1, eq_m2, m1_eq, m2_eq, m1_lt, m1_le, o_z, z_o, m1_z, m1_o, m2_z, m2_o, m2_m1, z_lz, z_lo, o_lz, o_ez, z_ez, z_eo, m2_lt, m2_le, leF, leT, ltF, ltT, eqF, eqT, bI_z, bI_o, sh1, sh0, not_true_eq_false, not_false_eq_true, ne_eq, Bool.true_eq_false, Bool.false_eq_true, true_and, and_true, false_and, and_false, l_2, l_3, l_4, l_5, l_6, l_7, l_8, l_9, l_10, l_11, l_12, l_13, l_14, l_15, l_16, l_17, l_18, l_19, l_20, l_21, l_22, l_23, l_24, l_25, l_26, l_27, l_28, l_29, l_30, l_32, l_33, l_34, l_35, l_36, l_37, l_38, l_39, l_50, l_60, l_99, l_100, l_150, l_160, l_240, l_250, l_300, l_400, l_402, l_403, l_420, l_500, l_600, l_840, l_1000, l_1024, l_2000, l_2047, l_2048, l_10000, l_25600, l_500000]; done) | omega)) | ((with_reducible apply Ok.ifF); · (first | (simp (disch := omega) only [↓reduceIte, Option.bind_some, Sum.elim_inl, Sum.elim_inr, if_true, if_false, rd_nI, wr_nI, rd_z, rd_o, wr_z, wr_o, nI_1, nI_add, pk_mul, nI_leI, nI_ltI, nI_eq, z_le, le_z, z_lt, lt_z, eq_z, eq_o, le_o, o_le, lt_o, o_lt, eq_m1, eq_m2, m1_eq, m2_eq, m1_lt, m1_le, o_z, z_o, m1_z, m1_o, m2_z, m2_o, m2_m1, z_lz, z_lo, o_lz, o_ez, z_ez, z_eo, m2_lt, m2_le, leF, leT, ltF, ltT, eqF, eqT, bI_z, bI_o, sh1, sh0, not_true_eq_false, not_false_eq_true, ne_eq, Bool.true_eq_false, Bool.false_eq_true, true_and, and_true, false_and, and_false, l_2, l_3, l_4, l_5, l_6, l_7, l_8, l_9, l_10, l_11, l_12, l_13, l_14, l_15, l_16, l_17, l_18, l_19, l_20, l_21, l_22, l_23, l_24, l_25, l_26, l_27, l_28, l_29, l_30, l_32, l_33, l_34, l_35, l_36, l_37, l_38, l_39, l_50, l_60, l_99, l_100, l_150, l_160, l_240, l_250, l_300, l_400, l_402, l_403, l_420, l_500, l_600, l_840, l_1000, l_1024, l_2000, l_2047, l_2048, l_10000, l_25600, l_500000]; done) | omega)) | with_reducible apply Ok.jnU | with_reducible apply Ok.letsU | with_reducible apply Ok.elL | with_reducible apply Ok.elR | ((with_reducible apply Ok.gdT); · exact bI_nar _)))
      exact Ok.ret rfl
    · intro i h1 h2 h3 h4
      refine ⟨nI i, rfl, ?_⟩
      rw [srch_of h1 (by omega) h3 h4]; rfl
    · intro h1
      refine ⟨-2, rfl, ?_⟩
      cases c6 : srch (wBestP W V z p) h0 (24 - h0) with
      | none => rfl
      | some j =>
        obtain ⟨h3, h4, h5, h6⟩ := srch_some c6
        rw [h1 j h3 (by omega)] at h5; cases h5
  have B : Ok ((iter (fun (s8 : Int32 × ST) => if (24 : Int32) ≤ s8.1 then some (.inr (.inl s8.2)) else (E_X12_placeOf n s8.2 (nI p) s8.1).bind fun v10 => jn (fun (S11 : ST) => some (.inl ((s8.1 + (1 : Int32)), S11))) fun j12 => if v10 < 0 then j12 s8.2 else (E_X12_speaks n s8.2 (nI p) s8.1 (0 : Int32)).bind fun v14 => if v14.1 = 0 then j12 v14.2 else (E_X12_earshotOf n v14.2 v10 s8.1).bind fun v16 => if (z &&& (v16 ^^^ (-1 : Int32))) = 0 then some (.inr (.inr (s8.1, v14.2))) else j12 v14.2) n (nI h0, upI S 95 61 0)).bind fun (z8 : (ST) ⊕ (Int32 × ST)) => Sum.elim (fun (e8 : ST) => some ((-2 : Int32), e8)) (fun (v : (Int32 × ST)) => some v) z8) (fun r => r.1 = (srch (wBestP W V z p) h0 (24 - h0)).elim (-2) nI ∧ Df XM (upI S 95 61 0) r.2) := by
    refine bindL (fun i q => q.1 = nI i ∧ Df XM (upI S 95 61 0) q.2 ∧ ∀ j, h0 ≤ j → j < i → wBestP W V z p j = false)
      (Sum.elim (fun S' => Df XM (upI S 95 61 0) S' ∧ srch (wBestP W V z p) h0 (24 - h0) = none) (fun r => r.1 = (srch (wBestP W V z p) h0 (24 - h0)).elim (-2) nI ∧ Df XM (upI S 95 61 0) r.2)) h0 24 (by omega) (by omega) ⟨rfl, Df.refl _ _, fun j _ hj => absurd hj (by omega)⟩ ?_ ?_ ?_
    · rintro i ⟨x, S1⟩ hi0 hi ⟨rfl, d1, hf⟩
      dsimp only at d1 ⊢
      have hR3 := XM_R hR2.1 d1
      have hL3 := XM_L hR2.2.1 d1
      have eD : bt (S1.1 95 61) = nD := by rw [XM_D d1, hR2.2.2.2.2.1, bt0]
      refine Ok.ifF (by simp (disch := omega) only [↓reduceIte, Option.bind_some, jn, lets, Sum.elim_inl, Sum.elim_inr, if_true, if_false, rd_nI, wr_nI, rd_z, rd_o, wr_z, wr_o, nI_1, nI_add, pk_mul, nI_leI, nI_ltI, nI_eq, z_le, le_z, z_lt, lt_z, eq_z, eq_o, le_o, o_le, lt_o, o_lt, eq_m1, eq_m2, m1_eq, m2_eq, m1_lt, m1_le, o_z, z_o, m1_z, m1_o, m2_z, m2_o, m2_m1, z_lz, z_lo, o_lz, o_ez, z_ez, z_eo, m2_lt, m2_le, leF, leT, ltF, ltT, eqF, eqT, bI_z, bI_o, sh1, sh0, not_true_eq_false, not_false_eq_true, ne_eq, Bool.true_eq_false, Bool.false_eq_true, true_and, and_true, false_and, and_false, l_2, l_3, l_4, l_5, l_6, l_7, l_8, l_9, l_10, l_11, l_12, l_13, l_14, l_15, l_16, l_17, l_18, l_19, l_20, l_21, l_22, l_23, l_24, l_25, l_26, l_27, l_28, l_29, l_30, l_32, l_33, l_34, l_35, l_36, l_37, l_38, l_39, l_50, l_60, l_99, l_100, l_150, l_160, l_240, l_250, l_300, l_400, l_402, l_403, l_420, l_500, l_600, l_840, l_1000, l_1024, l_2000, l_2047, l_2048, l_10000, l_25600, l_500000]) ?_
      have hpl := r_placeOf hR3 hW hn hp (h := i) (by omega)
      rw [eD] at hpl
      apply Ok.step hpl
      apply Ok.jnU
      have cont : ∀ S', Df XM (upI S 95 61 0) S' → wBestP W V z p i = false → Ok (some (Sum.inl (nI i + 1, S') : Int32 × ST ⊕ (ST ⊕ (Int32 × ST)))) (Sum.elim (fun q => q.1 = nI (i + 1) ∧ Df XM (upI S 95 61 0) q.2 ∧ ∀ j, h0 ≤ j → j < i + 1 → wBestP W V z p j = false) (Sum.elim (fun S' => Df XM (upI S 95 61 0) S' ∧ srch (wBestP W V z p) h0 (24 - h0) = none) (fun r => r.1 = (srch (wBestP W V z p) h0 (24 - h0)).elim (-2) nI ∧ Df XM (upI S 95 61 0) r.2))) := fun S' d' hb => Ok.inl ⟨nI_1 _, d', fun j hj1 hj2 => by
        by_cases e : j = i
        · subst e; exact hb
        · exact hf j hj1 (by omega)⟩
      by_cases g0 : 0 < W 0 0
      case neg =>
        have c : ¬ wOn W nD p = true := by simp [wOn, nD]; omega
        rw [if_neg c]
        refine Ok.ifT (by decide) (cont _ d1 ?_)
        have : wSpk W V p i = false := anyN_f.mpr (fun o _ => by simp [wMay, wMayL, c])
        simp [wBestP, this]
      have c : wOn W nD p = true := by simp [wOn, nD, g0]
      have hlt := wPl_lt hW g0 p i
      rw [if_pos c]
      refine Ok.ifF (nI_pos (by omega)) ?_
      obtain ⟨⟨v, S4⟩, e4, h4, d4⟩ := r_speaks (l := 0) hR3 hL3 hW hn hp (h := i) (by omega) (by decide)
      dsimp only at h4 d4
      rw [eD] at h4
      have h5 : v = bI (wSpk W V p i) := h4
      subst h5
      rw [nI_0] at e4
      apply Ok.step e4
      cases c6 : wSpk W V p i
      · exact Ok.ifT rfl (cont _ (d1.trans d4) (by simp [wBestP, c6]))
      refine Ok.ifF (show ¬ bI true = 0 by decide) ?_
      have hes := r_earshotOf (x := wPl W p i) (XM_R hR3 d4) hW hn (by omega) (h := i) (by omega)
      rw [XM_D d4, eD] at hes
      apply Ok.step hes
      by_cases c5 : (z &&& (bs (wHear W nD (wPl W p i) i) (W 0 1) ^^^ (-1 : Int32))) = 0
      · refine Ok.ifT c5 (Ok.inr ⟨?_, d1.trans d4⟩)
        rw [srch_of hi0 (by omega) (wBestP_t c6 c5) (fun k hk1 hk2 => hf k hk1 hk2)]
        rfl
      · exact Ok.ifF c5 (cont _ (d1.trans d4) (wBestP_f c5))
    · rintro ⟨x, S1⟩ ⟨rfl, d1, hf⟩
      dsimp only at d1 ⊢
      refine Ok.ifT (by simp (disch := omega) only [↓reduceIte, Option.bind_some, jn, lets, Sum.elim_inl, Sum.elim_inr, if_true, if_false, rd_nI, wr_nI, rd_z, rd_o, wr_z, wr_o, nI_1, nI_add, pk_mul, nI_leI, nI_ltI, nI_eq, z_le, le_z, z_lt, lt_z, eq_z, eq_o, le_o, o_le, lt_o, o_lt, eq_m1, eq_m2, m1_eq, m2_eq, m1_lt, m1_le, o_z, z_o, m1_z, m1_o, m2_z, m2_o, m2_m1, z_lz, z_lo, o_lz, o_ez, z_ez, z_eo, m2_lt, m2_le, leF, leT, ltF, ltT, eqF, eqT, bI_z, bI_o, sh1, sh0, not_true_eq_false, not_false_eq_true, ne_eq, Bool.true_eq_false, Bool.false_eq_true, true_and, and_true, false_and, and_false, l_2, l_3, l_4, l_5, l_6, l_7, l_8, l_9, l_10, l_11, l_12, l_13, l_14, l_15, l_16, l_17, l_18, l_19, l_20, l_21, l_22, l_23, l_24, l_25, l_26, l_27, l_28, l_29, l_30, l_32, l_33, l_34, l_35, l_36, l_37, l_38, l_39, l_50, l_60, l_99, l_100, l_150, l_160, l_240, l_250, l_300, l_400, l_402, l_403, l_420, l_500, l_600, l_840, l_1000, l_1024, l_2000, l_2047, l_2048, l_10000, l_25600, l_500000]) (Ok.inr ⟨d1, ?_⟩)
      cases c6 : srch (wBestP W V z p) h0 (24 - h0) with
      | none => rfl
      | some j =>
        obtain ⟨h3, h4, h5, h6⟩ := srch_some c6
        rw [hf j h3 (by omega)] at h5; cases h5
    · rintro (S1 | ⟨v, S1⟩) hq
      · exact ⟨_, rfl, by rw [hq.2]; rfl, hq.1⟩
      · exact ⟨_, rfl, hq.1, hq.2⟩
  obtain ⟨v1, e1, h1⟩ := A
  obtain ⟨⟨v2, S2⟩, e2, h2, d2⟩ := B
  dsimp only at h2 d2
  have d3 := XM_XSR d2
  refine ⟨v1, S2, e1, ?_, ⟨hW, hPW, hHW, (hC.dfR (XSR_XRf d)).dfR (XSR_XRf d3), hR2.dfS d3 (by rw [d2.2 _ _ rfl]; exact hR2.2.2.2.2.1) (by rw [d2.2 _ _ rfl]; exact hR2.2.2.2.2.2)⟩, (XSR_XQA d).trans (XSR_XQA d3)⟩
  rw [h1, ← h2]
  exact e2
end QA
