/-! ===== calls that change the plan ===== -/
def extP (P : PL) (N s h p o t : Nat) : PL := fun q k => if k = N then (match q with
  | 0 => s
  | 1 => h
  | 2 => p
  | 3 => o
  | _ => t) else P q k
/-- the rest of what holds, when the plan changes -/
theorem CI.plan {W : VW} {V : VL} {tw en : Nat} {P P' : PL} {N N' : Nat} {H H' : HL} {S S' : ST} {X : Nat → Nat → Bool} (hC : CI W V tw en P N H S) (d : Df X S S') (hx : ∀ a j, (a < 72 ∨ 75 < a) → (a ≠ 8 ∨ j ≠ 10) → X a j = false) (h2 : PCl P' N' S') (h3 : HCl H' S') (h4 : S'.1 8 10 = 0) : CI W V tw en P' N' H' S' := by
  obtain ⟨g1, g2, g3, g4, g5, g6⟩ := hC
  have hw := g1.1
  refine ⟨g1.df d (fun a j h => hx a j (by omega) (by omega)), h2, h3, Or.inl h4, ?_, g6.df d (fun a j h => hx a j (by omega) (by omega))⟩
  rw [d.2 92 3 (hx _ _ (by omega) (by omega))]
  rcases g5 with y | y
  · exact Or.inl y
  · exact Or.inr ⟨y.1, y.2.df d (fun a j h => hx a j (by omega) (by omega))⟩
theorem RI.plan {W : VW} {V : VL} {sd : Nat} {P P' : PL} {N N' : Nat} {H H' : HL} {S S' : ST} {X : Nat → Nat → Bool} (hR : RI W V sd P N H S) (d : Df X S S') (hx : ∀ a j, (a < 139 ∨ (143 < a ∧ a < 155)) → (a ≠ 95 ∨ j ≠ 62) → X a j = false) (h2 : PRef P' N' S') (h3 : HRef H' S') : RI W V sd P' N' H' S' := by
  obtain ⟨g1, g2, g3, g4, g5, g6⟩ := hR
  exact ⟨g1.df d (fun a j h => hx a j (by omega) (by omega)), g2.df d (fun a j h => by simp only [lawC, decide_eq_true_eq] at h; exact hx a j (by omega) (by omega)), h2, h3, by rw [d.2 _ _ (hx _ _ (by omega) (by omega))]; exact g5, by rw [d.2 _ _ (hx _ _ (by omega) (by omega))]; exact g6⟩
theorem CI.flag0 {W : VW} {V : VL} {tw en : Nat} {P : PL} {N : Nat} {H : HL} {S : ST} (hC : CI W V tw en P N H S) : CI W V tw en P N H (upI S 8 10 0) := by
  have d : Df (fun a j => a == 8 && j == 10) S (upI S 8 10 0) := (Df.refl _ _).up (by simp)
  have nx : ∀ a j, (a ≠ 8 ∨ j ≠ 10) → (fun a j => a == 8 && j == 10) a j = false := fun a j h => by
    simp only [Bool.and_eq_false_iff, beq_eq_false_iff_ne]; exact h
  exact hC.plan d (fun a j _ h => nx a j h) (hC.2.1.df d (fun a j h => nx a j (by omega))) (hC.2.2.1.df d (fun a j _ _ => nx a j (by omega))) (by rw [upI_at, if_pos ⟨rfl, rfl⟩])
def XCp (a j : Nat) : Bool := (a == 73 || a == 74) || ((a == 72 && j == 1) || (a == 75 || (a == 8 && j == 10)))
def XRp (a j : Nat) : Bool := decide (139 ≤ a ∧ a ≤ 143) || (decide (155 ≤ a ∧ a ≤ 160) || (a == 95 && j == 62))
theorem XCp_XCl {S S' : ST} (h : Df XCp S S') : Df XCl S S' := h.mono (fun a j hx => by
  simp only [XCp, XCl, decide_eq_false_iff_not, Bool.or_eq_false_iff, Bool.and_eq_false_iff, beq_eq_false_iff_ne] at hx ⊢
  omega)
theorem XCp_XQA {S S' : ST} (h : Df XCp S S') : Df XQA S S' := h.mono (fun a j hx => by
  simp only [XCp, XQA, decide_eq_false_iff_not, Bool.or_eq_false_iff, Bool.and_eq_false_iff, beq_eq_false_iff_ne, Bool.not_eq_false', decide_eq_true_eq, Bool.and_eq_true, Bool.or_eq_true, beq_iff_eq] at hx ⊢
  omega)
theorem XRp_XRf {S S' : ST} (h : Df XRp S S') : Df XRf S S' := h.mono (fun a j hx => by
  simp only [XRp, XRf, decide_eq_false_iff_not, Bool.or_eq_false_iff, Bool.and_eq_false_iff, beq_eq_false_iff_ne] at hx ⊢
  omega)
theorem XRp_XQA {S S' : ST} (h : Df XRp S S') : Df XQA S S' := h.mono (fun a j hx => by
  simp only [XRp, XQA, decide_eq_false_iff_not, Bool.or_eq_false_iff, Bool.and_eq_false_iff, beq_eq_false_iff_ne, Bool.not_eq_false', decide_eq_true_eq, Bool.and_eq_true, Bool.or_eq_true, beq_iff_eq] at hx ⊢
  omega)
theorem XCp_no {a j : Nat} (h : (a < 72 ∨ 75 < a) ∧ (a ≠ 8 ∨ j ≠ 10)) : XCp a j = false := by
  simp only [XCp, Bool.or_eq_false_iff, Bool.and_eq_false_iff, beq_eq_false_iff_ne]
  omega
theorem XRp_no {a j : Nat} (h : (a < 139 ∨ (143 < a ∧ a < 155) ∨ 160 < a) ∧ (a ≠ 95 ∨ j ≠ 62)) : XRp a j = false := by
  simp only [XRp, Bool.or_eq_false_iff, Bool.and_eq_false_iff, beq_eq_false_iff_ne, decide_eq_false_iff_not]
  omega
section QP
variable {W : VW} {V : VL} {tw en sd : Nat} {P : PL} {N : Nat} {H : HL} {n : Nat} {S : ST}
theorem c_add {s h p o t : Nat} {vo : Int32} (hC : CI W V tw en P N H S) (hN : N < 30) (ho : vo = if s = 2 then -1 else nI o) : Ok (E_X11_intoPlan n S tw (nI s) (nI h) (nI p) vo (nI t)) (fun r => r.1 = nI N ∧ CI W V tw en (extP P N s h p o t) (N + 1) H r.2 ∧ Df XCp S r.2) := by
  have hP := hC.2.1
  unfold E_X11_intoPlan
  apply Ok.letsU
  have e1 : (upI S 8 10 0).1 72 1 = nI N := by rw [upI_at, if_neg (by omega)]; exact hP.1
  have e0 : nI (N * 5) = nI (N * 5 + 0) := by rw [Nat.add_zero]
  unfold E_X5_add
  have ea : ∀ {R : Int32 × ST → Prop}, Ok (some (nI N, upI (upI (upI (upI (upI (upI (upI S 8 10 0) 73 (N * 5) (nI s)) 73 (N * 5 + 1) (nI h)) 73 (N * 5 + 2) (nI p)) 73 (N * 5 + 3) vo) 73 (N * 5 + 4) (nI t)) 72 1 (nI (N + 1)))) R → Ok ((if ((upI S 8 10 0).1 72 1) < (30 : Int32) then (wr (upI S 8 10 0) 73 150 (((upI S 8 10 0).1 72 1) * (5 : Int32)) (nI s)).bind fun S2 => (wr S2 73 150 ((((upI S 8 10 0).1 72 1) * (5 : Int32)) + (1 : Int32)) (nI h)).bind fun S3 => (wr S3 73 150 ((((upI S 8 10 0).1 72 1) * (5 : Int32)) + (2 : Int32)) (nI p)).bind fun S4 => (wr S4 73 150 ((((upI S 8 10 0).1 72 1) * (5 : Int32)) + (3 : Int32)) vo).bind fun S5 => (wr S5 73 150 ((((upI S 8 10 0).1 72 1) * (5 : Int32)) + (4 : Int32)) (nI t)).bind fun S6 => lets (upI S6 72 1 ((S6.1 72 1) + (1 : Int32))) fun (S7 : ST) => some (((S7.1 72 1) - (1 : Int32)), S7) else some ((-1 : Int32), upI S 8 10 0)).bind fun v2 => some (v2.1, v2.2)) R := by
    intro R hg
    rw [e1]
    have e2 : (upI (upI (upI (upI (upI (upI S 8 10 0) 73 (N * 5) (nI s)) 73 (N * 5 + 1) (nI h)) 73 (N * 5 + 2) (nI p)) 73 (N * 5 + 3) vo) 73 (N * 5 + 4) (nI t)).1 72 1 = nI N := by
      simp [upI_at, hP.1]
    refine Ok.step (x := (nI N, _)) (Ok.e ?_) hg
    (repeat (first | ((with_reducible apply Ok.step); · ((try simp (disch := omega) only [↓reduceIte, Option.bind_some, Sum.elim_inl, Sum.elim_inr, if_true, if_false, rd_nI, wr_nI, rd_z, rd_o, wr_z, wr_o, nI_1, nI_add, pk_mul, nI_leI, nI_ltI, nI_eq, z_le, le_z, z_lt, lt_z, eq_z, eq_o, le_o, o_le, lt_o, o_lt, eq_m1, eq_m2, m1_eq, m2_eq, m1_lt, m1_le, o_z, z_o, m1_z, m1_o, m2_z, m2_o, m2_m1, z_lz, z_lo, o_lz, o_ez, z_ez, z_eo, m2_lt, m2_le, leF, leT, ltF, ltT, eqF, eqT, bI_z, bI_o, sh1, sh0, not_true_eq_false, not_false_eq_true, ne_eq, Bool.true_eq_false, Bool.false_eq_true, true_and, and_true, false_and, and_false, l_2, l_3, l_4, l_5, l_6, l_7, l_8, l_9, l_10, l_11, l_12, l_13, l_14, l_15, l_16, l_17, l_18, l_19, l_20, l_21, l_22, l_23, l_24, l_25, l_26, l_27, l_28, l_29, l_30, l_32, l_33, l_34, l_35, l_36, l_37, l_38, l_39, l_50, l_60, l_99, l_100, l_150, l_160, l_240, l_250, l_300, l_400, l_402, l_403, l_420, l_500, l_600, l_840, l_1000, l_1024, l_2000, l_2047, l_2048, l_10000, l_25600, l_500000]); with_reducible exact rfl)) | ((with_reducible apply Ok.ifT); · (first | (simp (disch := omega) only [↓reduceIte, Option.bind_some, Sum.elim_inl, Sum.elim_inr, if_true, if_false, rd_nI, wr_nI, rd_z, rd_o, wr_z, wr_o, nI_1, nI_add, pk_mul, nI_leI, nI_ltI, nI_eq, z_le, le_z, z_lt, lt_z, eq_z, eq_o, le_o, o_le, lt_o, o_lt, eq_m1, eq_m2, m1_eq, m2_eq, m1_lt, m1_le, o_z, z_o, m1_z, m1_o, m2_z, m2_o, m2_m1, z_lz, z_lo, o_lz, o_ez, z_ez, z_eo, m2_lt, m2_le, leF, leT, ltF, ltT, eqF, eqT, bI_z, bI_o, sh1, sh0, not_true_eq_false, not_false_eq_true, ne_eq, Bool.true_eq_false, Bool.false_eq_true, true_and, and_true, false_and, and_false, l_2, l_3, l_4, l_5, l_6, l_7, l_8, l_9, l_10, l_11, l_12, l_13, l_14, l_15, l_16, l_17, l_18, l_19, l_20, l_21, l_22, l_23, l_24, l_25, l_26, l_27, l_28, l_29, l_30, l_32, l_33, l_34, l_35, l_36, l_37, l_38, l_39, l_50, l_60, l_99, l_100, l_150, l_160, l_240, l_250, l_300, l_400, l_402, l_403, l_420, l_500, l_600, l_840, l_1000, l_1024, l_2000, l_2047, l_2048, l_10000, l_25600, l_500000]; done) | omega)) | ((with_reducible apply Ok.ifF); · (first | (simp (disch := omega) only [↓reduceIte, Option.bind_some, Sum.elim_inl, Sum.elim_inr, if_true, if_false, rd_nI, wr_nI, rd_z, rd_o, wr_z, wr_o, nI_1, nI_add, pk_mul, nI_leI, nI_ltI, nI_eq, z_le, le_z, z_lt, lt_z, eq_z, eq_o, le_o, o_le, lt_o, o_lt, eq_m1, eq_m2, m1_eq, m2_eq, m1_lt, m1_le, o_z, z_o, m1_z, m1_o, m2_z, m2_o, m2_m1, z_lz, z_lo, o_lz, o_ez, z_ez, z_eo, m2_lt, m2_le, leF, leT, ltF, ltT, eqF, eqT, bI_z, bI_o, sh1, sh0, not_true_eq_false, not_false_eq_true, ne_eq, Bool.true_eq_false, Bool.false_eq_true, true_and, and_true, false_and, and_false, l_2, l_3, l_4, l_5, l_6, l_7, l_8, l_9, l_10, l_11, l_12, l_13, l_14, l_15, l_16, l_17, l_18, l_19, l_20, l_21, l_22, l_23, l_24, l_25, l_26, l_27, l_28, l_29, l_30, l_32, l_33, l_34, l_35, l_36, l_37, l_38, l_39, l_50, l_60, l_99, l_100, l_150, l_160, l_240, l_250, l_300, l_400, l_402, l_403, l_420, l_500, l_600, l_840, l_1000, l_1024, l_2000, l_2047, l_2048, l_10000, l_25600, l_500000]; done) | omega)) | with_reducible apply Ok.jnU | with_reducible apply Ok.letsU | with_reducible apply Ok.elL | with_reducible apply Ok.elR | ((with_reducible apply Ok.gdT); · exact bI_nar _)))
    apply Ok.ret
    rw [e2, nI_1, upI_at, if_pos ⟨rfl, rfl⟩, nI_pred]
    rfl
  apply ea
  generalize hS7 : upI (upI (upI (upI (upI (upI (upI S 8 10 0) 73 (N * 5) (nI s)) 73 (N * 5 + 1) (nI h)) 73 (N * 5 + 2) (nI p)) 73 (N * 5 + 3) vo) 73 (N * 5 + 4) (nI t)) 72 1 (nI (N + 1)) = S7
  have d : Df XCp S S7 := by
    rw [← hS7]
    exact (((((((Df.refl _ _).up rfl).up rfl).up rfl).up rfl).up rfl).up rfl).up rfl
  have c73 : ∀ x, S7.1 73 x = if x = N * 5 + 4 then nI t else if x = N * 5 + 3 then vo else if x = N * 5 + 2 then nI p else if x = N * 5 + 1 then nI h else if x = N * 5 then nI s else S.1 73 x := fun x => by
    rw [← hS7, upI_at, if_neg (by omega), upI_at, upI_at, upI_at, upI_at, upI_at, upI_at]
    simp
  refine Ok.ret ⟨rfl, hC.plan d (fun a j h1 h2 => XCp_no ⟨h1, h2⟩) ⟨by rw [← hS7, upI_at, if_pos ⟨rfl, rfl⟩], fun k q hk hq => ?_⟩ ?_ (by rw [← hS7]; simp [upI_at]), d⟩
  · rw [c73]
    by_cases e : k = N
    · subst e
      rcases (show q = 0 ∨ q = 1 ∨ q = 2 ∨ q = 3 ∨ q = 4 by omega) with rfl | rfl | rfl | rfl | rfl <;> simp [Pc, extP, ho]
    · rw [if_neg (by omega), if_neg (by omega), if_neg (by omega), if_neg (by omega), if_neg (by omega), hP.2 k q (by omega) hq]
      simp [Pc, extP, e]
  · refine hC.2.2.1.df (X := fun a j => !decide (74 ≤ a ∧ a ≤ 75)) ⟨d.1, fun a j hx => ?_⟩ (fun a j h1 h2 => by simp [h1, h2])
    simp only [Bool.not_eq_false', decide_eq_true_eq] at hx
    rw [← hS7, upI_at, if_neg (by omega), upI_at, if_neg (by omega), upI_at, if_neg (by omega), upI_at, if_neg (by omega), upI_at, if_neg (by omega), upI_at, if_neg (by omega), upI_at, if_neg (by omega)]
theorem c_addF {a b c d e : Int32} (hC : CI W V tw en P N H S) (hN : N = 30) : E_X11_intoPlan n S tw a b c d e = some (-1, upI S 8 10 0) := by
  unfold E_X11_intoPlan E_X5_add
  have e1 : (upI S 8 10 0).1 72 1 = nI N := by rw [upI_at, if_neg (by omega)]; exact hC.2.1.1
  simp only [lets]
  rw [e1, hN, if_neg (by decide)]
  rfl
theorem r_add {s h p o t : Nat} {vo : Int32} (hR : RI W V sd P N H S) (hN : N < 30) (ho : vo = if s = 2 then -1 else nI o) : Ok (E_X12_plans n S (nI s) (nI h) (nI p) vo (nI t)) (fun r => r.1 = nI N ∧ RI W V sd (extP P N s h p o t) (N + 1) H r.2 ∧ Df XRp S r.2) := by
  have hP := hR.2.2.1
  unfold E_X12_plans
  have e62 : ∀ {a j : Nat} {v : Int32} {S1 : ST}, a ≠ 95 → S1.1 95 62 = nI N → (upI S1 a j v).1 95 62 = nI N := fun ha h1 => by rw [upI_ne (fun z => ha z.symm)]; exact h1
  rw [hP.1]
  apply Ok.step (wr_nI (by omega) (by decide))
  rw [e62 (by decide) hP.1]
  apply Ok.step (wr_nI (by omega) (by decide))
  rw [e62 (by decide) (e62 (by decide) hP.1)]
  apply Ok.step (wr_nI (by omega) (by decide))
  rw [e62 (by decide) (e62 (by decide) (e62 (by decide) hP.1))]
  apply Ok.step (wr_nI (by omega) (by decide))
  rw [e62 (by decide) (e62 (by decide) (e62 (by decide) (e62 (by decide) hP.1)))]
  apply Ok.step (wr_nI (by omega) (by decide))
  rw [e62 (by decide) (e62 (by decide) (e62 (by decide) (e62 (by decide) (e62 (by decide) hP.1))))]
  apply Ok.letsU
  generalize hS7 : upI (upI (upI (upI (upI (upI S 139 N (nI s)) 140 N (nI h)) 141 N (nI p)) 142 N vo) 143 N (nI t)) 95 62 (nI N + 1) = S7
  have d : Df XRp S S7 := by
    rw [← hS7]
    exact ((((((Df.refl _ _).up rfl).up rfl).up rfl).up rfl).up rfl).up rfl
  refine Ok.ret ⟨by rw [← hS7, upI_at, if_pos ⟨rfl, rfl⟩, nI_1, nI_pred], hR.plan d (fun a j h1 h2 => XRp_no ⟨by omega, h2⟩) ⟨by rw [← hS7, upI_at, if_pos ⟨rfl, rfl⟩, nI_1], fun k hk => ?_⟩ ?_, d⟩
  · by_cases e : k = N
    · subst e
      rw [← hS7]
      simp [upI_at, extP, ho]
    · obtain ⟨a0, a1, a2, a3, a4⟩ := hP.2 k (by omega)
      rw [← hS7]
      simp [upI_at, extP, e, a0, a1, a2, a3, a4]
  · refine hR.2.2.2.1.df (X := fun a j => !decide (155 ≤ a ∧ a ≤ 160)) ⟨d.1, fun a j hx => ?_⟩ (fun a j h1 h2 => by simp [h1, h2])
    simp only [Bool.not_eq_false', decide_eq_true_eq] at hx
    rw [← hS7, upI_at, if_neg (by omega), upI_at, if_neg (by omega), upI_at, if_neg (by omega), upI_at, if_neg (by omega), upI_at, if_neg (by omega), upI_at, if_neg (by omega)]
theorem PWF.ext {s h p o t : Nat} (hPW : PWF W P N) (hN : N < 30) (hv : s < 4 ∧ h < 24 ∧ p < W 0 1 ∧ t < W 0 2 ∧ (s = 0 ∨ s = 3 → o < W 0 1 ∧ o ≠ p) ∧ (s = 1 → o < W 0 7 ∧ t = W 15 o)) : PWF W (extP P N s h p o t) (N + 1) := by
  refine ⟨by omega, fun k hk => ?_⟩
  by_cases e : k = N
  · subst e
    simp only [extP, if_true]
    exact hv
  · simp only [extP, e, if_false]
    exact hPW.2 k (by omega)
/-- a call that brings a doing into the plan: what is left of it behind its checks -/
theorem q_add {s h p o t : Nat} {vo : Int32} (hI : IV W V tw en sd P N H S) (hv : s < 4 ∧ h < 24 ∧ p < W 0 1 ∧ t < W 0 2 ∧ (s = 0 ∨ s = 3 → o < W 0 1 ∧ o ≠ p) ∧ (s = 1 → o < W 0 7 ∧ t = W 15 o)) (ho : vo = if s = 2 then -1 else nI o) :
    (N = 30 ∧ E_X11_intoPlan n S tw (nI s) (nI h) (nI p) vo (nI t) = some (-1, upI S 8 10 0) ∧ RI W V sd P N H (upI S 8 10 0) ∧ IV W V tw en sd P N H (upI S 8 10 0) ∧ Df XQA S (upI S 8 10 0)) ∨ (N < 30 ∧ ∃ S1 S2, E_X11_intoPlan n S tw (nI s) (nI h) (nI p) vo (nI t) = some (nI N, S1) ∧ RI W V sd P N H S1 ∧ E_X12_plans n S1 (nI s) (nI h) (nI p) vo (nI t) = some (nI N, S2) ∧ IV W V tw en sd (extP P N s h p o t) (N + 1) H S2 ∧ Df XQA S S2) := by
  obtain ⟨hW, hPW, hHW, hC, hR⟩ := hI
  have d0 : Df XCp S (upI S 8 10 0) := (Df.refl _ _).up rfl
  by_cases e : N = 30
  · exact Or.inl ⟨e, c_addF hC e, hR.dfC (XCp_XCl d0), ⟨hW, hPW, hHW, hC.flag0, hR.dfC (XCp_XCl d0)⟩, XCp_XQA d0⟩
  · have hN : N < 30 := by have := hPW.1; omega
    obtain ⟨⟨v1, S1⟩, e1, rfl, hC1, d1⟩ := c_add (n := n) (s := s) (h := h) (p := p) (o := o) (t := t) hC hN ho
    have hR1 := hR.dfC (XCp_XCl d1)
    obtain ⟨⟨v2, S2⟩, e2, rfl, hR2, d2⟩ := r_add (n := n) (s := s) (h := h) (p := p) (o := o) (t := t) hR1 hN ho
    exact Or.inr ⟨hN, S1, S2, e1, hR1, e2, ⟨hW, hPW.ext hN hv, hHW, hC1.dfR (XRp_XRf d2), hR2⟩, (XCp_XQA d1).trans (XRp_XQA d2)⟩
/-- what is asked of a call that may change the plan -/
def Sp (X : ST → Option (Int32 × ST)) (Y : ST → Option (Int32 × ST)) (S : ST) (I : PL → Nat → HL → ST → Prop) : Prop := ∃ v S1 S2 P' N' H', X S = some (v, S1) ∧ Y S1 = some (v, S2) ∧ I P' N' H' S2 ∧ Df XQA S S2
theorem Sp.no {X Y : ST → Option (Int32 × ST)} {I : PL → Nat → HL → ST → Prop} {v : Int32} (h1 : X S = some (v, S)) (h2 : Y S = some (v, S)) (hI : I P N H S) : Sp X Y S I := ⟨v, S, S, P, N, H, h1, h2, hI, Df.refl _ _⟩
theorem r_can (hR : RI W V sd P N H S) (hW : WF W) (hN : N ≤ 30) {x y : Int32} : E_X12_canPlan n S x y = some (bI (decide (N < 30) && (vB x 24 && vB y (W 0 1)))) := by
  unfold E_X12_canPlan
  rw [hR.2.2.1.1]
  by_cases c : N < 30
  · rw [if_neg (show ¬ (30 : Int32) ≤ nI N from nI_ge (b := 30) c (by decide)), r_vH, Option.bind_some, decide_eq_true c]
    cases vB x 24
    · rfl
    · rw [if_neg (by decide), r_vP hR.1 hW, Option.bind_some]
      cases vB y (W 0 1) <;> rfl
  · rw [if_pos (show (30 : Int32) ≤ nI N from nI_le (a := 30) (by omega) (by omega)), decide_eq_false c]; rfl
theorem q_tell {s : Nat} (hs : s = 0 ∨ s = 3) (hI : IV W V tw en sd P N H S) (x y z w : Int32) : Sp (fun S => (E_X11_isHour n S x).bind fun v1 => if v1 = 0 then some ((-1 : Int32), S) else (E_X11_areTwo n S tw y z).bind fun v3 => if v3 = 0 then some ((-1 : Int32), S) else (E_X11_isOne n S tw (2 : Int32) w).bind fun v5 => if v5 = 0 then some ((-1 : Int32), S) else (E_X11_intoPlan n S tw (nI s) x y z w).bind fun v7 => some (v7.1, v7.2))
    (fun S => (E_X12_canPlan n S x y).bind fun v1 => if v1 = 0 then some ((-1 : Int32), S) else (E_X12_isPerson n S z).bind fun v3 => if v3 = 0 then some ((-1 : Int32), S) else if y = z then some ((-1 : Int32), S) else (E_X12_isThing n S w).bind fun v6 => if v6 = 0 then some ((-1 : Int32), S) else (E_X12_plans n S (nI s) x y z w).bind fun v8 => some (v8.1, v8.2)) S (IV W V tw en sd) := by
  have hI0 := hI
  obtain ⟨hW, hPW, hHW, hC, hR⟩ := hI
  have hm1 : W 0 1 ≤ 10 := hW.mx (k := 1) (by decide)
  have hm2 : W 0 2 ≤ 6 := hW.mx (k := 2) (by decide)
  have hN := hPW.1
  have v2 : E_X11_isOne n S tw (2 : Int32) w = some (bI (vB w (W 0 2))) := c_vOne (k := 2) hC.1 hW (by decide)
  have noR : ∀ {S1}, RI W V sd P N H S1 → (N < 30 → vB x 24 = true → vB y (W 0 1) = true → vB z (W 0 1) = true → y ≠ z → vB w (W 0 2) = false) → (E_X12_canPlan n S1 x y).bind (fun v1 => if v1 = 0 then some ((-1 : Int32), S1) else (E_X12_isPerson n S1 z).bind fun v3 => if v3 = 0 then some ((-1 : Int32), S1) else if y = z then some ((-1 : Int32), S1) else (E_X12_isThing n S1 w).bind fun v6 => if v6 = 0 then some ((-1 : Int32), S1) else (E_X12_plans n S1 (nI s) x y z w).bind fun v8 => some (v8.1, v8.2)) = some (-1, S1) := by
    intro S1 hR1 hz
    rw [r_can hR1 hW hN, Option.bind_some]
    by_cases c0 : N < 30
    case neg => rw [decide_eq_false c0]; rfl
    cases c1 : vB x 24
    · rw [Bool.false_and, Bool.and_false]; rfl
    cases c2 : vB y (W 0 1)
    · rw [Bool.and_false, Bool.and_false]; rfl
    rw [decide_eq_true c0, if_neg (by decide), r_vP hR1.1 hW, Option.bind_some]
    cases c3 : vB z (W 0 1)
    · rfl
    rw [if_neg (by decide)]
    by_cases c4 : y = z
    · rw [if_pos c4]
    rw [if_neg c4, r_vT hR1.1 hW, hz c0 c1 c2 c3 c4]
    rfl
  cases c1 : vB x 24
  · exact Sp.no (by rw [c_vH, c1]; rfl) (noR hR (fun _ h => by rw [c1] at h; cases h)) hI0
  cases c2 : vB y (W 0 1)
  · exact Sp.no (by rw [c_vH, c1, Option.bind_some, if_neg (by decide), c_two hC.1 hW, c2]; rfl) (noR hR (fun _ _ h => by rw [c2] at h; cases h)) hI0
  cases c3 : vB z (W 0 1)
  · exact Sp.no (by rw [c_vH, c1, Option.bind_some, if_neg (by decide), c_two hC.1 hW, c2, c3]; rfl) (noR hR (fun _ _ _ h => by rw [c3] at h; cases h)) hI0
  by_cases c4 : y = z
  · exact Sp.no (by rw [c_vH, c1, Option.bind_some, if_neg (by decide), c_two hC.1 hW, c2, c3]; simp [c4, bI]) (noR hR (fun _ _ _ _ h => absurd c4 h)) hI0
  have c4' : decide (y ≠ z) = true := by simp [c4]
  cases c5 : vB w (W 0 2)
  · exact Sp.no (by rw [c_vH, c1, Option.bind_some, if_neg (by decide), c_two hC.1 hW, c2, c3, c4', Option.bind_some, if_neg (by decide), v2, c5]; rfl) (noR hR (fun _ _ _ _ _ => c5)) hI0
  obtain ⟨h, hh, rfl⟩ := vB_t (by omega) c1
  obtain ⟨p, hp, rfl⟩ := vB_t (by omega) c2
  obtain ⟨o, ho, rfl⟩ := vB_t (by omega) c3
  obtain ⟨t, ht, rfl⟩ := vB_t (by omega) c5
  have hpo : o ≠ p := fun e => c4 (by rw [e])
  have ev : (fun S => (E_X11_isHour n S (nI h)).bind fun v1 => if v1 = 0 then some ((-1 : Int32), S) else (E_X11_areTwo n S tw (nI p) (nI o)).bind fun v3 => if v3 = 0 then some ((-1 : Int32), S) else (E_X11_isOne n S tw (2 : Int32) (nI t)).bind fun v5 => if v5 = 0 then some ((-1 : Int32), S) else (E_X11_intoPlan n S tw (nI s) (nI h) (nI p) (nI o) (nI t)).bind fun v7 => some (v7.1, v7.2)) S = E_X11_intoPlan n S tw (nI s) (nI h) (nI p) (nI o) (nI t) := by
    dsimp only
    rw [c_vH, c1, Option.bind_some, if_neg (by decide), c_two hC.1 hW, c2, c3, c4', Option.bind_some, if_neg (by decide), v2, c5, Option.bind_some, if_neg (by decide)]
    cases E_X11_intoPlan n S tw (nI s) (nI h) (nI p) (nI o) (nI t) <;> rfl
  have hs2 : nI o = if s = 2 then -1 else nI o := by rw [if_neg (by omega)]
  rcases q_add (n := n) (s := s) (h := h) (p := p) (o := o) (t := t) hI0 ⟨by omega, hh, hp, ht, fun _ => ⟨ho, hpo⟩, fun z => by omega⟩ hs2 with ⟨e0, e1, hR1, hI1, d1⟩ | ⟨e0, S1, S2, e1, hR1, e2, hI2, d2⟩
  · exact ⟨-1, upI S 8 10 0, upI S 8 10 0, P, N, H, by rw [ev, e1], noR hR1 (fun z => absurd z (by omega)), hI1, d1⟩
  · refine ⟨nI N, S1, S2, _, _, H, by rw [ev, e1], ?_, hI2, d2⟩
    dsimp only
    rw [r_can hR1 hW hN, c1, c2, decide_eq_true e0, Option.bind_some, if_neg (by decide), r_vP hR1.1 hW, c3, Option.bind_some, if_neg (by decide), if_neg c4, r_vT hR1.1 hW, c5, Option.bind_some, if_neg (by decide), e2]
    rfl
theorem q_say (hI : IV W V tw en sd P N H S) (x y z w : Int32) : Sp (fun S => E_X11_say n S tw x y z w) (fun S => E_X12_say n S x y z w) S (IV W V tw en sd) := q_tell (s := 0) (Or.inl rfl) hI x y z w
theorem q_ask (hI : IV W V tw en sd P N H S) (x y z w : Int32) : Sp (fun S => E_X11_ask n S tw x y z w) (fun S => E_X12_ask n S x y z w) S (IV W V tw en sd) := q_tell (s := 3) (Or.inr rfl) hI x y z w
theorem q_leave (hI : IV W V tw en sd P N H S) (x y w : Int32) : Sp (fun S => E_X11_leave n S tw x y w) (fun S => E_X12_leave n S x y w) S (IV W V tw en sd) := by
  have hI0 := hI
  obtain ⟨hW, hPW, hHW, hC, hR⟩ := hI
  have hm1 : W 0 1 ≤ 10 := hW.mx (k := 1) (by decide)
  have hm2 : W 0 2 ≤ 6 := hW.mx (k := 2) (by decide)
  have hN := hPW.1
  have v2 : E_X11_isOne n S tw (2 : Int32) w = some (bI (vB w (W 0 2))) := c_vOne (k := 2) hC.1 hW (by decide)
  have noR : ∀ {S1}, RI W V sd P N H S1 → (N < 30 → vB x 24 = true → vB y (W 0 1) = true → vB w (W 0 2) = false) → E_X12_leave n S1 x y w = some (-1, S1) := by
    intro S1 hR1 hz
    unfold E_X12_leave
    rw [r_can hR1 hW hN, Option.bind_some]
    by_cases c0 : N < 30
    case neg => rw [decide_eq_false c0]; rfl
    cases c1 : vB x 24
    · rw [Bool.false_and, Bool.and_false]; rfl
    cases c2 : vB y (W 0 1)
    · rw [Bool.and_false, Bool.and_false]; rfl
    rw [decide_eq_true c0, if_neg (by decide), r_vT hR1.1 hW, hz c0 c1 c2]
    rfl
  unfold E_X11_leave
  cases c1 : vB x 24
  · exact Sp.no (by rw [c_vH, c1]; rfl) (noR hR (fun _ h => by rw [c1] at h; cases h)) hI0
  cases c2 : vB y (W 0 1)
  · exact Sp.no (by rw [c_vH, c1, Option.bind_some, if_neg (by decide), c_v1 hC.1 hW, c2]; rfl) (noR hR (fun _ _ h => by rw [c2] at h; cases h)) hI0
  cases c5 : vB w (W 0 2)
  · exact Sp.no (by rw [c_vH, c1, Option.bind_some, if_neg (by decide), c_v1 hC.1 hW, c2, Option.bind_some, if_neg (by decide), v2, c5]; rfl) (noR hR (fun _ _ _ => c5)) hI0
  obtain ⟨h, hh, rfl⟩ := vB_t (by omega) c1
  obtain ⟨p, hp, rfl⟩ := vB_t (by omega) c2
  obtain ⟨t, ht, rfl⟩ := vB_t (by omega) c5
  have ev : (E_X11_isHour n S (nI h)).bind (fun v1 => if v1 = 0 then some ((-1 : Int32), S) else (E_X11_isOne n S tw (1 : Int32) (nI p)).bind fun v3 => if v3 = 0 then some ((-1 : Int32), S) else (E_X11_isOne n S tw (2 : Int32) (nI t)).bind fun v5 => if v5 = 0 then some ((-1 : Int32), S) else (E_X11_intoPlan n S tw (2 : Int32) (nI h) (nI p) (-1 : Int32) (nI t)).bind fun v7 => some (v7.1, v7.2)) = E_X11_intoPlan n S tw (nI 2) (nI h) (nI p) (-1) (nI t) := by
    rw [c_vH, c1, Option.bind_some, if_neg (by decide), c_v1 hC.1 hW, c2, Option.bind_some, if_neg (by decide), v2, c5, Option.bind_some, if_neg (by decide)]
    show (E_X11_intoPlan n S tw (nI 2) (nI h) (nI p) (-1) (nI t)).bind _ = _
    cases E_X11_intoPlan n S tw (nI 2) (nI h) (nI p) (-1) (nI t) <;> rfl
  rcases q_add (n := n) (s := 2) (h := h) (p := p) (o := 0) (t := t) (vo := -1) hI0 ⟨by omega, hh, hp, ht, fun z => by omega, fun z => by omega⟩ rfl with ⟨e0, e1, hR1, hI1, d1⟩ | ⟨e0, S1, S2, e1, hR1, e2, hI2, d2⟩
  · exact ⟨-1, upI S 8 10 0, upI S 8 10 0, P, N, H, ev.trans e1, noR hR1 (fun z => absurd z (by omega)), hI1, d1⟩
  · refine ⟨nI N, S1, S2, _, _, H, ev.trans e1, ?_, hI2, d2⟩
    unfold E_X12_leave
    dsimp only
    rw [r_can hR1 hW hN, c1, c2, decide_eq_true e0, Option.bind_some, if_neg (by decide), r_vT hR1.1 hW, c5, Option.bind_some, if_neg (by decide)]
    show (E_X12_plans n S1 (nI 2) (nI h) (nI p) (-1) (nI t)).bind _ = _
    rw [e2]
    rfl
theorem q_show (hI : IV W V tw en sd P N H S) (x y w : Int32) : Sp (fun S => E_X11_show n S tw x y w) (fun S => E_X12_show n S x y w) S (IV W V tw en sd) := by
  have hI0 := hI
  obtain ⟨hW, hPW, hHW, hC, hR⟩ := hI
  have hm1 : W 0 1 ≤ 10 := hW.mx (k := 1) (by decide)
  have hm2 : W 0 2 ≤ 6 := hW.mx (k := 2) (by decide)
  have hm7 : W 0 7 ≤ 6 := hW.mx (k := 7) (by decide)
  have hN := hPW.1
  have hsd := hR.1.1
  have v2 : E_X11_isOne n S tw (7 : Int32) w = some (bI (vB w (W 0 7))) := c_vOne (k := 7) hC.1 hW (by decide)
  have noR : ∀ {S1}, RI W V sd P N H S1 → (N < 30 → vB x 24 = true → vB y (W 0 1) = true → vB w (W 0 7) = false) → E_X12_show n S1 x y w = some (-1, S1) := by
    intro S1 hR1 hz
    unfold E_X12_show
    rw [r_can hR1 hW hN, Option.bind_some]
    by_cases c0 : N < 30
    case neg => rw [decide_eq_false c0]; rfl
    cases c1 : vB x 24
    · rw [Bool.false_and, Bool.and_false]; rfl
    cases c2 : vB y (W 0 1)
    · rw [Bool.and_false, Bool.and_false]; rfl
    rw [decide_eq_true c0, if_neg (by decide), r_vA hR1.1 hW, hz c0 c1 c2]
    rfl
  unfold E_X11_show
  cases c1 : vB x 24
  · exact Sp.no (by rw [c_vH, c1]; rfl) (noR hR (fun _ h => by rw [c1] at h; cases h)) hI0
  cases c2 : vB y (W 0 1)
  · exact Sp.no (by rw [c_vH, c1, Option.bind_some, if_neg (by decide), c_v1 hC.1 hW, c2]; rfl) (noR hR (fun _ _ h => by rw [c2] at h; cases h)) hI0
  cases c5 : vB w (W 0 7)
  · exact Sp.no (by rw [c_vH, c1, Option.bind_some, if_neg (by decide), c_v1 hC.1 hW, c2, Option.bind_some, if_neg (by decide), v2, c5]; rfl) (noR hR (fun _ _ _ => c5)) hI0
  obtain ⟨h, hh, rfl⟩ := vB_t (by omega) c1
  obtain ⟨p, hp, rfl⟩ := vB_t (by omega) c2
  obtain ⟨o, ho, rfl⟩ := vB_t (by omega) c5
  have ht := (hW.2.2.2.2.2.2.2.1 o ho).1
  have ev : (E_X11_isHour n S (nI h)).bind (fun v1 => if v1 = 0 then some ((-1 : Int32), S) else (E_X11_isOne n S tw (1 : Int32) (nI p)).bind fun v3 => if v3 = 0 then some ((-1 : Int32), S) else (E_X11_isOne n S tw (7 : Int32) (nI o)).bind fun v5 => if v5 = 0 then some ((-1 : Int32), S) else (rd (S.1 (tw + 10)) 6 (nI o)).bind fun v7 => (E_X11_intoPlan n S tw (1 : Int32) (nI h) (nI p) (nI o) v7).bind fun v8 => some (v8.1, v8.2)) = E_X11_intoPlan n S tw (nI 1) (nI h) (nI p) (nI o) (nI (W 15 o)) := by
    rw [c_vH, c1, Option.bind_some, if_neg (by decide), c_v1 hC.1 hW, c2, Option.bind_some, if_neg (by decide), v2, c5, Option.bind_some, if_neg (by decide), rd_nI (by omega) (by decide), g_at hC.1 o ho, Option.bind_some]
    show (E_X11_intoPlan n S tw (nI 1) (nI h) (nI p) (nI o) (nI (W 15 o))).bind _ = _
    cases E_X11_intoPlan n S tw (nI 1) (nI h) (nI p) (nI o) (nI (W 15 o)) <;> rfl
  rcases q_add (n := n) (s := 1) (h := h) (p := p) (o := o) (t := W 15 o) (vo := nI o) hI0 ⟨by omega, hh, hp, ht, fun z => by omega, fun z => ⟨ho, rfl⟩⟩ rfl with ⟨e0, e1, hR1, hI1, d1⟩ | ⟨e0, S1, S2, e1, hR1, e2, hI2, d2⟩
  · exact ⟨-1, upI S 8 10 0, upI S 8 10 0, P, N, H, ev.trans e1, noR hR1 (fun z => absurd z (by omega)), hI1, d1⟩
  · refine ⟨nI N, S1, S2, _, _, H, ev.trans e1, ?_, hI2, d2⟩
    unfold E_X12_show
    dsimp only
    rw [r_can hR1 hW hN, c1, c2, decide_eq_true e0, Option.bind_some, if_neg (by decide), r_vA hR1.1 hW, c5, Option.bind_some, if_neg (by decide), rw_122 hR1.1 hW ho, Option.bind_some]
    show (E_X12_plans n S1 (nI 1) (nI h) (nI p) (nI o) (nI (W 15 o))).bind _ = _
    rw [e2]
    rfl
end QP
