/-! ===== the class goes through all hours ===== -/
def CRow (W : VW) (V : VL) (P : PL) (N : Nat) (D : Nat → Bool) (h : Nat) (Z : CS) (c i : Nat) (S : ST) : Prop :=
  KnC (W 0 1) (c + 1) (fun p t => if Z.1 p t ≤ h then Z.1 p t else if anyN (qF W V P D h Z.1 Z.2.1 p t) i = true then h + 1 else 99) S
  ∧ (∀ k, k < N → P 1 k < h → S.1 (c + 4) k = nI (Z.2.1 k)) ∧ (∀ k, k < N → k < i → P 1 k = h → S.1 (c + 4) k = nI (wWhy W V P D Z.1 h k))
  ∧ (∀ s o t, s < 10 → o < 10 → t < 6 → S.1 (c + 3) (60 * s + 6 * o + t) = nI (if Z.2.2 s o t ≤ h then Z.2.2 s o t else if anyN (qN W V P D h Z.1 s o t) i = true then h + 1 else 99))
  ∧ S.1 c 4 = nI (tot P N (sY W V P D h Z.1 Z.2.1) (wCost W P) h i) ∧ S.1 c 5 = nI (tot P N (sY W V P D h Z.1 Z.2.1) (fun _ => 1) h i)
/-- what a course has found -/
def CRes (W : VW) (V : VL) (P : PL) (N : Nat) (h : Nat) (Z : CS) (c : Nat) (S : ST) : Prop :=
  KnC (W 0 1) (c + 1) Z.1 S ∧ (∀ k, k < N → P 1 k < h → S.1 (c + 4) k = nI (Z.2.1 k)) ∧ (∀ s o t, s < 10 → o < 10 → t < 6 → S.1 (c + 3) (60 * s + 6 * o + t) = nI (Z.2.2 s o t))
  ∧ S.1 c 4 = nI (sumN (fun k => if P 1 k < h ∧ Z.2.1 k = 0 then wCost W P k else 0) N) ∧ S.1 c 5 = nI (sumN (fun k => if P 1 k < h ∧ Z.2.1 k = 0 then 1 else 0) N)
theorem wWhy_lt {W : VW} {V : VL} {P : PL} {D : Nat → Bool} {F : FT2} {h k : Nat} : wWhy W V P D F h k < 6 := by
  unfold wWhy
  repeat' split
  all_goals omega
theorem cSt_Y {W : VW} {V : VL} {P : PL} {N : Nat} {DD : Nat → Nat → Bool} : ∀ h k, (cSt W V P N DD h).2.1 k < 6 := by
  intro h
  induction h with
  | zero => intro k; exact Nat.zero_lt_succ _
  | succ h ih =>
    intro k
    simp only [cSt, sY]
    split
    · exact wWhy_lt
    · exact ih k
section CG3
variable {W : VW} {V : VL} {P : PL} {N w c n : Nat} {S : ST}
theorem c_doing1 (hC : CW W V w S) (hc : c = 76 ∨ c = 82) (hW : WF W) (hn : 30000 ≤ n) (hP : PCl P N S) (hPW : PWF W P N) {D : Nat → Bool} {Z : CS} {h i : Nat} (hh : h < 24) (hi : i < N) (hF : Upto h Z.1) (hU : ∀ s o t, Z.2.2 s o t ≤ h ∨ Z.2.2 s o t = 99) (hY : ∀ k, Z.2.1 k < 6) (H : CRow W V P N D h Z c i S) {J : ST → Option (Int32 × ST ⊕ ST)} {Q : Int32 × ST ⊕ ST → Prop} (hJ : ∀ S', Df (XK c w) S S' → CRow W V P N D h Z c (i + 1) S' → Ok (J S') Q) :
    Ok (if nI (P 1 i) = nI h then (E_X1_whyNot n S c w (nI i) (bs (fun p => !D p) (W 0 1))).bind fun v15 => (wr v15.2 (c + 4) 30 (nI i) v15.1).bind fun S16 => (rd (S16.1 (c + 4)) 30 (nI i)).bind fun v17 => if v17 = 0 then (E_X1_carryOut n S16 c w (nI i) (bs (fun p => !D p) (W 0 1))).bind fun S20 => J S20 else J S16 else (E_X5_hour n S (nI i)).bind fun v21 => if nI h ≤ v21 then J S else (E_X1_readWriting n S c w (nI i) (nI h) (bs (fun p => !D p) (W 0 1))).bind fun S24 => J S24) Q := by
  have hm1 : W 0 1 ≤ 10 := hW.mx (k := 1) (by decide)
  have hm2 : W 0 2 ≤ 6 := hW.mx (k := 2) (by decide)
  have hN := hPW.1
  have hww := hC.1
  obtain ⟨q0, q1, q2, q4, q03, q11⟩ := hPW.2 i hi
  obtain ⟨k1, y1, y2, u1, s1, s2⟩ := H
  -- the knowledge ahead of this doing
  generalize hG0 : (fun p t => if Z.1 p t ≤ h then Z.1 p t else if anyN (qF W V P D h Z.1 Z.2.1 p t) i = true then h + 1 else 99) = G at k1
  have hGv : ∀ p t, G p t = if Z.1 p t ≤ h then Z.1 p t else if anyN (qF W V P D h Z.1 Z.2.1 p t) i = true then h + 1 else 99 := fun p t => by rw [← hG0]
  have hg : ∀ p t, G p t ≤ 99 := fun p t => by
    rw [hGv]
    split
    · omega
    · split <;> omega
  have hFG : ∀ p t, G p t ≤ h ↔ Z.1 p t ≤ h := fun p t => by
    rw [hGv]
    split
    · exact Iff.rfl
    · split <;> omega
  -- knowledge behind it
  have next : ∀ (T : Nat → Nat → Bool), (∀ p t, p < W 0 1 → t < 6 → T p t = qF W V P D h Z.1 Z.2.1 p t i) → ∀ p t, p < W 0 1 → t < 6 → (if T p t = true ∧ h + 1 < G p t then h + 1 else G p t) = if Z.1 p t ≤ h then Z.1 p t else if anyN (qF W V P D h Z.1 Z.2.1 p t) (i + 1) = true then h + 1 else 99 := by
    intro T hT p t hp ht
    rw [hT p t hp ht, hGv, anyN]
    by_cases c1 : Z.1 p t ≤ h
    · rw [if_pos c1, if_pos c1, if_neg (by omega)]
    · rw [if_neg c1, if_neg c1]
      cases c2 : anyN (qF W V P D h Z.1 Z.2.1 p t) i
      · cases c3 : qF W V P D h Z.1 Z.2.1 p t i
        · simp
        · simp
          omega
      · simp
  -- a doing with which nothing comes
  have qF0 : ∀ p t, P 1 i = h → wWhy W V P D Z.1 h i ≠ 0 → qF W V P D h Z.1 Z.2.1 p t i = false := fun p t z1 z2 => by
    have : ¬ P 1 i < h := by omega
    simp [qF, z2, wRead, this]
  have keep : ∀ S', Df (XK c w) S S' → (∀ j, S'.1 (c + 3) j = S.1 (c + 3) j) → S'.1 c 4 = S.1 c 4 → S'.1 c 5 = S.1 c 5 → (P 1 i ≠ h ∨ wWhy W V P D Z.1 h i ≠ 0) →
      KnC (W 0 1) (c + 1) (fun p t => if Z.1 p t ≤ h then Z.1 p t else if anyN (qF W V P D h Z.1 Z.2.1 p t) (i + 1) = true then h + 1 else 99) S' →
      (∀ k, k < N → P 1 k < h → S'.1 (c + 4) k = nI (Z.2.1 k)) → (∀ k, k < N → k < i + 1 → P 1 k = h → S'.1 (c + 4) k = nI (wWhy W V P D Z.1 h k)) → CRow W V P N D h Z c (i + 1) S' := by
    intro S' d e1 e2 e3 z k' y1' y2'
    have hz : P 1 i ≠ h ∨ sY W V P D h Z.1 Z.2.1 i ≠ 0 := by
      by_cases e : P 1 i = h
      · refine Or.inr ?_
        unfold sY
        rw [if_pos e]
        rcases z with z | z
        · exact absurd e z
        · exact z
      · exact Or.inl e
    refine ⟨k', y1', y2', fun s o t b1 b2 b3 => ?_, ?_, ?_⟩
    · rw [e1, u1 s o t b1 b2 b3]
      have : qN W V P D h Z.1 s o t i = false := by
        unfold qN
        rcases z with z | z <;> simp [z]
      simp only [anyN, this, Bool.or_false]
    · rw [e2, s1, tot_skip hz]
    · rw [e3, s2, tot_skip hz]
  by_cases c1 : P 1 i = h
  · refine Ok.ifT (by rw [c1]) ?_
    obtain ⟨⟨v, S2⟩, e2, h2, d2⟩ := c_whyNot (D := D) (F := Z.1) (G := G) hC hW hn hP hPW hi k1 hg (fun p t => by rw [c1]; exact hFG p t)
    dsimp only at h2 d2
    rw [c1] at h2
    subst h2
    apply Ok.step e2
    dsimp only
    have d2' : Df (XK c w) S S2 := XA_XK d2
    have hlt := wWhy_lt (W := W) (V := V) (P := P) (D := D) (F := Z.1) (h := h) (k := i)
    apply Ok.step (wr_nI (by omega) (by decide))
    apply Ok.step (x := nI (wWhy W V P D Z.1 h i)) (by rw [rd_nI (by omega) (by decide), upI_at, if_pos ⟨rfl, rfl⟩])
    generalize hS3 : upI S2 (c + 4) i (nI (wWhy W V P D Z.1 h i)) = S3
    have d3 : Df (XK c w) S S3 := by rw [← hS3]; exact d2'.up (by simp only [Xc, XK, XA, XM, XP, XD, XF, XG, X1, X61, Bool.or_eq_false_iff, beq_eq_false_iff_ne, decide_eq_false_iff_not, Bool.and_eq_false_iff, Bool.or_eq_true, beq_iff_eq, decide_eq_true_eq, Bool.and_eq_true, ne_eq, true_and, and_true, or_true, true_or, false_or, or_false, and_self, not_true_eq_false, not_false_eq_true]; try omega)
    have old : ∀ a j, (a < w + 19 ∨ w + 20 < a) → ¬ (a = c + 4 ∧ j = i) → S3.1 a j = S.1 a j := by
      intro a j b1 b2
      rw [← hS3, upI_at, if_neg b2]
      exact d2.2 a j (by simp only [Xc, XK, XA, XM, XP, XD, XF, XG, X1, X61, Bool.or_eq_false_iff, beq_eq_false_iff_ne, decide_eq_false_iff_not, Bool.and_eq_false_iff, Bool.or_eq_true, beq_iff_eq, decide_eq_true_eq, Bool.and_eq_true, ne_eq, true_and, and_true, or_true, true_or, false_or, or_false, and_self, not_true_eq_false, not_false_eq_true]; try omega)
    have k3 : KnC (W 0 1) (c + 1) G S3 := ⟨hm1, fun p t hp ht => by rw [old _ _ (by omega) (by omega)]; exact k1.2 p t hp ht⟩
    have y13 : ∀ k, k < N → P 1 k < h → S3.1 (c + 4) k = nI (Z.2.1 k) := fun k hk hk2 => by
      have : k ≠ i := fun z => by subst z; omega
      rw [old _ _ (by omega) (by omega)]
      exact y1 k hk hk2
    have y23 : ∀ k, k < N → k < i + 1 → P 1 k = h → S3.1 (c + 4) k = nI (wWhy W V P D Z.1 h k) := fun k hk hk2 hk3 => by
      by_cases e : k = i
      · subst e
        rw [← hS3, upI_at, if_pos ⟨rfl, rfl⟩]
      · rw [old _ _ (by omega) (by omega)]
        exact y2 k hk (by omega) hk3
    by_cases c2 : wWhy W V P D Z.1 h i = 0
    case neg =>
      refine Ok.ifF (by simp (disch := omega) only [↓reduceIte, Option.bind_some, jn, lets, Sum.elim_inl, Sum.elim_inr, if_true, if_false, rd_nI, wr_nI, rd_z, rd_o, wr_z, wr_o, nI_1, nI_add, pk_mul, nI_leI, nI_ltI, nI_eq, z_le, le_z, z_lt, lt_z, eq_z, eq_o, le_o, o_le, lt_o, o_lt, eq_m1, eq_m2, m1_eq, m2_eq, m1_lt, m1_le, o_z, z_o, m1_z, m1_o, m2_z, m2_o, m2_m1, z_lz, z_lo, o_lz, o_ez, z_ez, z_eo, m2_lt, m2_le, leF, leT, ltF, ltT, eqF, eqT, bI_z, bI_o, sh1, sh0, not_true_eq_false, not_false_eq_true, ne_eq, Bool.true_eq_false, Bool.false_eq_true, true_and, and_true, false_and, and_false, l_2, l_3, l_4, l_5, l_6, l_7, l_8, l_9, l_10, l_11, l_12, l_13, l_14, l_15, l_16, l_17, l_18, l_19, l_20, l_21, l_22, l_23, l_24, l_25, l_26, l_27, l_28, l_29, l_30, l_32, l_33, l_34, l_35, l_36, l_37, l_38, l_39, l_50, l_60, l_99, l_100, l_150, l_160, l_240, l_250, l_300, l_400, l_402, l_403, l_420, l_500, l_600, l_840, l_1000, l_1024, l_2000, l_2047, l_2048, l_10000, l_25600, l_500000, c2]) (hJ _ d3 (keep S3 d3 (fun j => old _ _ (by omega) (by omega)) (old _ _ (by omega) (by omega)) (old _ _ (by omega) (by omega)) (Or.inr c2) ?_ y13 y23))
      exact k3.congr (fun p t hp ht => by
        rw [← next (qF W V P D h Z.1 Z.2.1 · · i) (fun _ _ _ _ => rfl) p t hp ht, qF0 p t c1 c2]; simp)
    refine Ok.ifT (by rw [c2]; rfl) ?_
    obtain ⟨S4, e4, d4, k4, u4, r4, p4, o4⟩ := c_carryOut (XK_W hC hc d3) hc hW hn (XK_P hP hc hww d3) hPW hi c1 k3 hg hFG c2
    apply Ok.step e4
    have hq : ∀ p t, wTeach W V P D Z.1 h i p t = qF W V P D h Z.1 Z.2.1 p t i := fun p t => by
      have : ¬ P 1 i < h := by omega
      simp [qF, c1, c2, wRead]
    have hsY : sY W V P D h Z.1 Z.2.1 i = 0 := by unfold sY; rw [if_pos c1, c2]
    refine hJ _ (d3.trans d4) ⟨k4.congr (next _ (fun p t _ _ => hq p t)), fun k hk hk2 => by rw [r4]; exact y13 k hk hk2, fun k hk hk2 hk3 => by rw [r4]; exact y23 k hk hk2 hk3, fun s o t b1 b2 b3 => ?_, ?_, ?_⟩
    · rw [u4 s o t b1 b2 b3, old _ _ (by omega) (by omega), u1 s o t b1 b2 b3]
      have hb : qN W V P D h Z.1 s o t i = wSee W V P D Z.1 h i s o t := by simp [qN, c1, c2]
      simp only [anyN, hb]
      rcases hU s o t with hu | hu
      · rw [if_pos hu, if_neg (fun x => absurd x.2 (nI_nlt (by omega) (by omega))), if_pos hu]
      · have hu2 : ¬ Z.2.2 s o t ≤ h := by omega
        rw [if_neg hu2, if_neg hu2]
        by_cases c5 : anyN (qN W V P D h Z.1 s o t) i = true
        · rw [if_pos c5, if_neg (fun x => absurd x.2 (nI_nlt (by omega) (by omega))), c5]
          rfl
        · rw [if_neg c5]
          simp only [Bool.not_eq_true] at c5
          rw [c5, Bool.false_or]
          by_cases c6 : wSee W V P D Z.1 h i s o t = true
          · rw [if_pos ⟨c6, nI_lt (by omega) (by omega)⟩, if_pos c6]
          · rw [if_neg (fun x => c6 x.1), if_neg c6]
    · rw [p4, old _ _ (by omega) (by omega), s1, tot_add hi c1 hsY, nI_add]
    · rw [o4, old _ _ (by omega) (by omega), s2, tot_add hi c1 hsY, nI_1]
  refine Ok.ifF (by simp (disch := omega) only [↓reduceIte, Option.bind_some, jn, lets, Sum.elim_inl, Sum.elim_inr, if_true, if_false, rd_nI, wr_nI, rd_z, rd_o, wr_z, wr_o, nI_1, nI_add, pk_mul, nI_leI, nI_ltI, nI_eq, z_le, le_z, z_lt, lt_z, eq_z, eq_o, le_o, o_le, lt_o, o_lt, eq_m1, eq_m2, m1_eq, m2_eq, m1_lt, m1_le, o_z, z_o, m1_z, m1_o, m2_z, m2_o, m2_m1, z_lz, z_lo, o_lz, o_ez, z_ez, z_eo, m2_lt, m2_le, leF, leT, ltF, ltT, eqF, eqT, bI_z, bI_o, sh1, sh0, not_true_eq_false, not_false_eq_true, ne_eq, Bool.true_eq_false, Bool.false_eq_true, true_and, and_true, false_and, and_false, l_2, l_3, l_4, l_5, l_6, l_7, l_8, l_9, l_10, l_11, l_12, l_13, l_14, l_15, l_16, l_17, l_18, l_19, l_20, l_21, l_22, l_23, l_24, l_25, l_26, l_27, l_28, l_29, l_30, l_32, l_33, l_34, l_35, l_36, l_37, l_38, l_39, l_50, l_60, l_99, l_100, l_150, l_160, l_240, l_250, l_300, l_400, l_402, l_403, l_420, l_500, l_600, l_840, l_1000, l_1024, l_2000, l_2047, l_2048, l_10000, l_25600, l_500000, c1]) ?_
  apply Ok.step (c_hour hP hN hi)
  have y23 : ∀ {S' : ST}, (∀ j, S'.1 (c + 4) j = S.1 (c + 4) j) → ∀ k, k < N → k < i + 1 → P 1 k = h → S'.1 (c + 4) k = nI (wWhy W V P D Z.1 h k) := fun e k hk hk2 hk3 => by
    have : k ≠ i := fun z => by subst z; exact c1 hk3
    rw [e]
    exact y2 k hk (by omega) hk3
  by_cases c3 : h ≤ P 1 i
  · refine Ok.ifT (by simp (disch := omega) only [↓reduceIte, Option.bind_some, jn, lets, Sum.elim_inl, Sum.elim_inr, if_true, if_false, rd_nI, wr_nI, rd_z, rd_o, wr_z, wr_o, nI_1, nI_add, pk_mul, nI_leI, nI_ltI, nI_eq, z_le, le_z, z_lt, lt_z, eq_z, eq_o, le_o, o_le, lt_o, o_lt, eq_m1, eq_m2, m1_eq, m2_eq, m1_lt, m1_le, o_z, z_o, m1_z, m1_o, m2_z, m2_o, m2_m1, z_lz, z_lo, o_lz, o_ez, z_ez, z_eo, m2_lt, m2_le, leF, leT, ltF, ltT, eqF, eqT, bI_z, bI_o, sh1, sh0, not_true_eq_false, not_false_eq_true, ne_eq, Bool.true_eq_false, Bool.false_eq_true, true_and, and_true, false_and, and_false, l_2, l_3, l_4, l_5, l_6, l_7, l_8, l_9, l_10, l_11, l_12, l_13, l_14, l_15, l_16, l_17, l_18, l_19, l_20, l_21, l_22, l_23, l_24, l_25, l_26, l_27, l_28, l_29, l_30, l_32, l_33, l_34, l_35, l_36, l_37, l_38, l_39, l_50, l_60, l_99, l_100, l_150, l_160, l_240, l_250, l_300, l_400, l_402, l_403, l_420, l_500, l_600, l_840, l_1000, l_1024, l_2000, l_2047, l_2048, l_10000, l_25600, l_500000, c3]) (hJ _ (Df.refl _ _) (keep S (Df.refl _ _) (fun _ => rfl) rfl rfl (Or.inl c1) ?_ y1 (y23 (fun _ => rfl))))
    refine k1.congr (fun p t hp ht => ?_)
    rw [← next (qF W V P D h Z.1 Z.2.1 · · i) (fun _ _ _ _ => rfl) p t hp ht]
    have : qF W V P D h Z.1 Z.2.1 p t i = false := by
      have : ¬ P 1 i < h := by omega
      simp [qF, c1, wRead, this]
    rw [this]; simp
  · refine Ok.ifF (by simp (disch := omega) only [↓reduceIte, Option.bind_some, jn, lets, Sum.elim_inl, Sum.elim_inr, if_true, if_false, rd_nI, wr_nI, rd_z, rd_o, wr_z, wr_o, nI_1, nI_add, pk_mul, nI_leI, nI_ltI, nI_eq, z_le, le_z, z_lt, lt_z, eq_z, eq_o, le_o, o_le, lt_o, o_lt, eq_m1, eq_m2, m1_eq, m2_eq, m1_lt, m1_le, o_z, z_o, m1_z, m1_o, m2_z, m2_o, m2_m1, z_lz, z_lo, o_lz, o_ez, z_ez, z_eo, m2_lt, m2_le, leF, leT, ltF, ltT, eqF, eqT, bI_z, bI_o, sh1, sh0, not_true_eq_false, not_false_eq_true, ne_eq, Bool.true_eq_false, Bool.false_eq_true, true_and, and_true, false_and, and_false, l_2, l_3, l_4, l_5, l_6, l_7, l_8, l_9, l_10, l_11, l_12, l_13, l_14, l_15, l_16, l_17, l_18, l_19, l_20, l_21, l_22, l_23, l_24, l_25, l_26, l_27, l_28, l_29, l_30, l_32, l_33, l_34, l_35, l_36, l_37, l_38, l_39, l_50, l_60, l_99, l_100, l_150, l_160, l_240, l_250, l_300, l_400, l_402, l_403, l_420, l_500, l_600, l_840, l_1000, l_1024, l_2000, l_2047, l_2048, l_10000, l_25600, l_500000, c3]) ?_
    obtain ⟨S4, e4, d4, k4, z1, z2, z3, z4⟩ := c_readWriting hC hc hW hn hP hPW (D := D) (Y := Z.2.1) hi (by omega) hh k1 hg (y1 i hi (by omega)) (by have := hY i; omega)
    apply Ok.step e4
    refine hJ _ d4 (keep S4 d4 z1 z3 z4 (Or.inl c1) (k4.congr (next _ (fun p t _ _ => ?_))) (fun k hk hk2 => by rw [z2]; exact y1 k hk hk2) (y23 z2))
    simp [qF, c1]
theorem c_go {DD : Nat → Nat → Bool} (hC : CW W V w S) (hc : c = 76 ∨ c = 82) (hW : WF W) (hn : 30000 ≤ n) (hP : PCl P N S) (hPW : PWF W P N) (hD : Dth c (W 0 1) DD S) : Ok (E_X1_go n S c w) (fun S' => Df (XK c w) S S' ∧ CRes W V P N 24 (cSt W V P N DD 24) c S') := by
  have hm1 : W 0 1 ≤ 10 := hW.mx (k := 1) (by decide)
  have hN := hPW.1
  have hww := hC.1
  unfold E_X1_go
  obtain ⟨S2, e2, d2, k2⟩ := c_begin (k := c + 1) hC hW hn (by omega)
  apply Ok.step e2
  apply Ok.letsU
  apply Ok.letsU
  apply Ok.letsU
  generalize hS5 : upI (upI (fillS S2 (c + 3) 600 99) c 4 0) c 5 0 = S5
  have d5 : Df (XK c w) S S5 := by
    rw [← hS5]
    exact (((Xc_XK d2 (by omega)).set (fun _ => (by simp only [Xc, XK, XA, XM, XP, XD, XF, XG, X1, X61, Bool.or_eq_false_iff, beq_eq_false_iff_ne, decide_eq_false_iff_not, Bool.and_eq_false_iff, Bool.or_eq_true, beq_iff_eq, decide_eq_true_eq, Bool.and_eq_true, ne_eq, true_and, and_true, or_true, true_or, false_or, or_false, and_self, not_true_eq_false, not_false_eq_true]; try omega))).up (by simp only [Xc, XK, XA, XM, XP, XD, XF, XG, X1, X61, Bool.or_eq_false_iff, beq_eq_false_iff_ne, decide_eq_false_iff_not, Bool.and_eq_false_iff, Bool.or_eq_true, beq_iff_eq, decide_eq_true_eq, Bool.and_eq_true, ne_eq, true_and, and_true, or_true, true_or, false_or, or_false, and_self, not_true_eq_false, not_false_eq_true]; try omega)).up (by simp only [Xc, XK, XA, XM, XP, XD, XF, XG, X1, X61, Bool.or_eq_false_iff, beq_eq_false_iff_ne, decide_eq_false_iff_not, Bool.and_eq_false_iff, Bool.or_eq_true, beq_iff_eq, decide_eq_true_eq, Bool.and_eq_true, ne_eq, true_and, and_true, or_true, true_or, false_or, or_false, and_self, not_true_eq_false, not_false_eq_true]; try omega)
  have H0 : CRes W V P N 0 (cSt W V P N DD 0) c S5 := by
    refine ⟨⟨hm1, fun p t hp ht => ?_⟩, fun k _ hk => absurd hk (by omega), fun s o t b1 b2 b3 => ?_, ?_, ?_⟩
    · rw [← hS5, upI_at, if_neg (by omega), upI_at, if_neg (by omega)]
      show (setC S2 (c + 3) _).1 (c + 1 + 1) _ = _
      rw [setC_ne (by omega)]
      exact k2.2 p t hp ht
    · rw [← hS5, upI_at, if_neg (by omega), upI_at, if_neg (by omega)]
      show (setC S2 (c + 3) _).1 (c + 3) _ = _
      rw [setC_eq, if_pos (by omega)]
      rfl
    · rw [← hS5, upI_at, if_neg (by omega), upI_at, if_pos ⟨rfl, rfl⟩]
      have : sumN (fun k => if P 1 k < 0 ∧ (cSt W V P N DD 0).2.1 k = 0 then wCost W P k else 0) N = 0 := by
        rw [sumN_congr (g := fun _ => 0) (fun i _ => by simp)]
        have := sumN_le (f := fun _ => 0) (c := 0) N (fun _ _ => Nat.le_refl _)
        omega
      rw [this]; rfl
    · rw [← hS5, upI_at, if_pos ⟨rfl, rfl⟩]
      have : sumN (fun k => if P 1 k < 0 ∧ (cSt W V P N DD 0).2.1 k = 0 then 1 else 0) N = 0 := by
        rw [sumN_congr (g := fun _ => 0) (fun i _ => by simp)]
        have := sumN_le (f := fun _ => 0) (c := 0) N (fun _ _ => Nat.le_refl _)
        omega
      rw [this]; rfl
  refine bindL (fun h q => q.1 = nI h ∧ Df (XK c w) S q.2 ∧ CRes W V P N h (cSt W V P N DD h) c q.2) (fun S' => Df (XK c w) S S' ∧ CRes W V P N 24 (cSt W V P N DD 24) c S') 0 24 (by decide) (by omega) ⟨rfl, d5, H0⟩ ?_ ?_ (fun S1 h1 => Ok.ret h1)
  · rintro h ⟨x, S6⟩ _ hh ⟨rfl, d6, H⟩
    dsimp only at d6 H ⊢
    have hC6 := XK_W hC hc d6
    have hP6 := XK_P hP hc hww d6
    have hD6 : Dth c (W 0 1) DD S6 := fun p hp => by
      obtain ⟨d, h1, h2, h3⟩ := hD p hp
      exact ⟨d, h1, by rw [d6.2 _ _ (by simp only [Xc, XK, XA, XM, XP, XD, XF, XG, X1, X61, Bool.or_eq_false_iff, beq_eq_false_iff_ne, decide_eq_false_iff_not, Bool.and_eq_false_iff, Bool.or_eq_true, beq_iff_eq, decide_eq_true_eq, Bool.and_eq_true, ne_eq, true_and, and_true, or_true, true_or, false_or, or_false, and_self, not_true_eq_false, not_false_eq_true]; try omega)]; exact h2, h3⟩
    refine Ok.ifF (by simp (disch := omega) only [↓reduceIte, Option.bind_some, jn, lets, Sum.elim_inl, Sum.elim_inr, if_true, if_false, rd_nI, wr_nI, rd_z, rd_o, wr_z, wr_o, nI_1, nI_add, pk_mul, nI_leI, nI_ltI, nI_eq, z_le, le_z, z_lt, lt_z, eq_z, eq_o, le_o, o_le, lt_o, o_lt, eq_m1, eq_m2, m1_eq, m2_eq, m1_lt, m1_le, o_z, z_o, m1_z, m1_o, m2_z, m2_o, m2_m1, z_lz, z_lo, o_lz, o_ez, z_ez, z_eo, m2_lt, m2_le, leF, leT, ltF, ltT, eqF, eqT, bI_z, bI_o, sh1, sh0, not_true_eq_false, not_false_eq_true, ne_eq, Bool.true_eq_false, Bool.false_eq_true, true_and, and_true, false_and, and_false, l_2, l_3, l_4, l_5, l_6, l_7, l_8, l_9, l_10, l_11, l_12, l_13, l_14, l_15, l_16, l_17, l_18, l_19, l_20, l_21, l_22, l_23, l_24, l_25, l_26, l_27, l_28, l_29, l_30, l_32, l_33, l_34, l_35, l_36, l_37, l_38, l_39, l_50, l_60, l_99, l_100, l_150, l_160, l_240, l_250, l_300, l_400, l_402, l_403, l_420, l_500, l_600, l_840, l_1000, l_1024, l_2000, l_2047, l_2048, l_10000, l_25600, l_500000]) ?_
    apply Ok.step (c_alive hC6 hW hn hD6 hh)
    obtain ⟨g1, g2, g3, g4, g5⟩ := H
    have hFF := cSt_F (W := W) (V := V) (P := P) (N := N) (DD := DD) h
    have hUU := cSt_U (W := W) (V := V) (P := P) (N := N) (DD := DD) h
    have hYY := cSt_Y (W := W) (V := V) (P := P) (N := N) (DD := DD) h
    have ey : ∀ k, k < N → P 1 k < h → sY W V P (DD h) h (cSt W V P N DD h).1 (cSt W V P N DD h).2.1 k = (cSt W V P N DD h).2.1 k := fun k _ hk => by
      unfold sY
      rw [if_neg (by omega)]
    have HR : CRow W V P N (DD h) h (cSt W V P N DD h) c 0 S6 := by
      refine ⟨g1.congr (fun p t _ _ => ?_), g2, fun k _ hk => absurd hk (by omega), fun s o t b1 b2 b3 => ?_, ?_, ?_⟩
      · rcases hFF p t with z | z
        · rw [if_pos z]
        · rw [if_neg (by omega), z]; simp [anyN]
      · rw [g3 s o t b1 b2 b3]
        rcases hUU s o t with z | z
        · rw [if_pos z]
        · rw [if_neg (by omega), z]; simp [anyN]
      · rw [g4, tot_0 ey]
      · rw [g5, tot_0 ey]
    refine bindL (fun i q => q.1 = nI i ∧ Df (XK c w) S6 q.2 ∧ CRow W V P N (DD h) h (cSt W V P N DD h) c i q.2) (fun S' => Df (XK c w) S6 S' ∧ CRow W V P N (DD h) h (cSt W V P N DD h) c N S') 0 N (Nat.zero_le _) (by omega) ⟨rfl, Df.refl _ _, HR⟩ ?_ ?_ ?_
    · rintro i ⟨x, S7⟩ _ hi ⟨rfl, d7, H7⟩
      dsimp only at d7 H7 ⊢
      have hC7 := XK_W hC6 hc d7
      have hP7 := XK_P hP6 hc hww d7
      refine Ok.ifF (by simp (disch := omega) only [↓reduceIte, Option.bind_some, jn, lets, Sum.elim_inl, Sum.elim_inr, if_true, if_false, rd_nI, wr_nI, rd_z, rd_o, wr_z, wr_o, nI_1, nI_add, pk_mul, nI_leI, nI_ltI, nI_eq, z_le, le_z, z_lt, lt_z, eq_z, eq_o, le_o, o_le, lt_o, o_lt, eq_m1, eq_m2, m1_eq, m2_eq, m1_lt, m1_le, o_z, z_o, m1_z, m1_o, m2_z, m2_o, m2_m1, z_lz, z_lo, o_lz, o_ez, z_ez, z_eo, m2_lt, m2_le, leF, leT, ltF, ltT, eqF, eqT, bI_z, bI_o, sh1, sh0, not_true_eq_false, not_false_eq_true, ne_eq, Bool.true_eq_false, Bool.false_eq_true, true_and, and_true, false_and, and_false, l_2, l_3, l_4, l_5, l_6, l_7, l_8, l_9, l_10, l_11, l_12, l_13, l_14, l_15, l_16, l_17, l_18, l_19, l_20, l_21, l_22, l_23, l_24, l_25, l_26, l_27, l_28, l_29, l_30, l_32, l_33, l_34, l_35, l_36, l_37, l_38, l_39, l_50, l_60, l_99, l_100, l_150, l_160, l_240, l_250, l_300, l_400, l_402, l_403, l_420, l_500, l_600, l_840, l_1000, l_1024, l_2000, l_2047, l_2048, l_10000, l_25600, l_500000, hP7.1]) ?_
      apply Ok.step (c_hour hP7 hN hi)
      apply Ok.jnU
      exact c_doing1 hC7 hc hW hn hP7 hPW hh hi hFF hUU hYY H7 (J := fun S12 => some (.inl (nI i + 1, S12))) (fun S' d' H' => Ok.inl ⟨nI_1 _, d7.trans d', H'⟩)
    · rintro ⟨x, S7⟩ ⟨rfl, d7, H7⟩
      dsimp only at d7 H7 ⊢
      have hP7 := XK_P hP6 hc hww d7
      refine Ok.ifT (by simp (disch := omega) only [↓reduceIte, Option.bind_some, jn, lets, Sum.elim_inl, Sum.elim_inr, if_true, if_false, rd_nI, wr_nI, rd_z, rd_o, wr_z, wr_o, nI_1, nI_add, pk_mul, nI_leI, nI_ltI, nI_eq, z_le, le_z, z_lt, lt_z, eq_z, eq_o, le_o, o_le, lt_o, o_lt, eq_m1, eq_m2, m1_eq, m2_eq, m1_lt, m1_le, o_z, z_o, m1_z, m1_o, m2_z, m2_o, m2_m1, z_lz, z_lo, o_lz, o_ez, z_ez, z_eo, m2_lt, m2_le, leF, leT, ltF, ltT, eqF, eqT, bI_z, bI_o, sh1, sh0, not_true_eq_false, not_false_eq_true, ne_eq, Bool.true_eq_false, Bool.false_eq_true, true_and, and_true, false_and, and_false, l_2, l_3, l_4, l_5, l_6, l_7, l_8, l_9, l_10, l_11, l_12, l_13, l_14, l_15, l_16, l_17, l_18, l_19, l_20, l_21, l_22, l_23, l_24, l_25, l_26, l_27, l_28, l_29, l_30, l_32, l_33, l_34, l_35, l_36, l_37, l_38, l_39, l_50, l_60, l_99, l_100, l_150, l_160, l_240, l_250, l_300, l_400, l_402, l_403, l_420, l_500, l_600, l_840, l_1000, l_1024, l_2000, l_2047, l_2048, l_10000, l_25600, l_500000, hP7.1]) ?_
      exact Ok.inr ⟨d7, H7⟩
    · rintro S7 ⟨d7, k7, y7, y8, u7, t7, t8⟩
      refine Ok.inl ⟨nI_1 _, d6.trans d7, ?_⟩
      refine ⟨k7, fun k hk hk2 => ?_, u7, ?_, ?_⟩
      · by_cases e : P 1 k = h
        · rw [y8 k hk hk e]
          simp only [cSt, sY, e, if_true]
        · rw [y7 k hk (by omega)]
          simp only [cSt, sY, e, if_false]
      · rw [t7, tot_N]; rfl
      · rw [t8, tot_N]; rfl
  · rintro ⟨x, S6⟩ ⟨rfl, d6, H⟩
    dsimp only at d6 H ⊢
    refine Ok.ifT (by simp (disch := omega) only [↓reduceIte, Option.bind_some, jn, lets, Sum.elim_inl, Sum.elim_inr, if_true, if_false, rd_nI, wr_nI, rd_z, rd_o, wr_z, wr_o, nI_1, nI_add, pk_mul, nI_leI, nI_ltI, nI_eq, z_le, le_z, z_lt, lt_z, eq_z, eq_o, le_o, o_le, lt_o, o_lt, eq_m1, eq_m2, m1_eq, m2_eq, m1_lt, m1_le, o_z, z_o, m1_z, m1_o, m2_z, m2_o, m2_m1, z_lz, z_lo, o_lz, o_ez, z_ez, z_eo, m2_lt, m2_le, leF, leT, ltF, ltT, eqF, eqT, bI_z, bI_o, sh1, sh0, not_true_eq_false, not_false_eq_true, ne_eq, Bool.true_eq_false, Bool.false_eq_true, true_and, and_true, false_and, and_false, l_2, l_3, l_4, l_5, l_6, l_7, l_8, l_9, l_10, l_11, l_12, l_13, l_14, l_15, l_16, l_17, l_18, l_19, l_20, l_21, l_22, l_23, l_24, l_25, l_26, l_27, l_28, l_29, l_30, l_32, l_33, l_34, l_35, l_36, l_37, l_38, l_39, l_50, l_60, l_99, l_100, l_150, l_160, l_240, l_250, l_300, l_400, l_402, l_403, l_420, l_500, l_600, l_840, l_1000, l_1024, l_2000, l_2047, l_2048, l_10000, l_25600, l_500000]) ?_
    exact Ok.inr ⟨d6, H⟩
end CG3
