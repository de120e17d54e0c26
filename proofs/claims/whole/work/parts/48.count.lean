/-! ===== count, feed, back ===== -/
def cntN (j : Nat) : Nat := if j < 5 then j else j + 1
def helds (H : HL) (s : Nat) : Nat := if (H s).isSome then 1 else 0
section CNT
variable {W : VW} {V : VL} {tw en sd : Nat} {P : PL} {N : Nat} {H : HL} {n : Nat} {S : ST}
theorem vB_sub {x : Int32} {c m : Nat} (hm : m < 1000) (h : vB (x - nI c) m = true) : ∃ j, j < m ∧ x = nI (c + j) := by
  obtain ⟨j, hj, e⟩ := vB_t (by omega) h
  refine ⟨j, hj, ?_⟩
  have : x - nI c + nI c = x := Int32.sub_add_cancel x (nI c)
  rw [← this, e, nI_add, Nat.add_comm]
theorem vB_subF {x : Int32} {c m : Nat} (hm : m < 1000) (hc : c < 1000) (h : x < nI c) : vB (x - nI c) m = false := by
  cases e : vB (x - nI c) m
  · rfl
  · obtain ⟨j, hj, rfl⟩ := vB_sub hm e
    exact absurd h (nI_nlt (by omega) (by omega))
theorem nI_subR (a c j : Nat) : nI (a + (c + j)) - nI c = nI (a + j) := by
  rw [show a + (c + j) = (a + j) + c by omega, ← nI_add, Int32.add_sub_cancel]
theorem nI_subC (c j : Nat) : nI (c + j) - nI c = nI j := by
  rw [Nat.add_comm, ← nI_add, Int32.add_sub_cancel]
theorem c_slots (hC : CI W V tw en P N H S) (hH : HWF W H) (hn : 30000 ≤ n) : E_X5_fullSlots n S = some (nI (sumN (helds H) 3)) := by
  unfold E_X5_fullSlots
  apply Ok.e
  refine bindP (fun i => (nI (sumN (helds H) i), nI i)) (nI (sumN (helds H) 3)) 0 3 (Nat.zero_le _) (by omega) rfl ?_ ?_ (Ok.ret rfl)
  · intro s _ hs
    obtain ⟨h1, h2⟩ := hC.2.2.1 s hs
    refine Ok.ifF (by simp (disch := omega) only [↓reduceIte, Option.bind_some, jn, lets, Sum.elim_inl, Sum.elim_inr, if_true, if_false, rd_nI, wr_nI, rd_z, rd_o, wr_z, wr_o, nI_1, nI_add, pk_mul, nI_leI, nI_ltI, nI_eq, z_le, le_z, z_lt, lt_z, eq_z, eq_o, le_o, o_le, lt_o, o_lt, eq_m1, eq_m2, m1_eq, m2_eq, m1_lt, m1_le, o_z, z_o, m1_z, m1_o, m2_z, m2_o, m2_m1, z_lz, z_lo, o_lz, o_ez, z_ez, z_eo, m2_lt, m2_le, leF, leT, ltF, ltT, eqF, eqT, bI_z, bI_o, sh1, sh0, not_true_eq_false, not_false_eq_true, ne_eq, Bool.true_eq_false, Bool.false_eq_true, true_and, and_true, false_and, and_false, l_2, l_3, l_4, l_5, l_6, l_7, l_8, l_9, l_10, l_11, l_12, l_13, l_14, l_15, l_16, l_17, l_18, l_19, l_20, l_21, l_22, l_23, l_24, l_25, l_26, l_27, l_28, l_29, l_30, l_32, l_33, l_34, l_35, l_36, l_37, l_38, l_39, l_50, l_60, l_99, l_100, l_150, l_160, l_240, l_250, l_300, l_400, l_402, l_403, l_420, l_500, l_600, l_840, l_1000, l_1024, l_2000, l_2047, l_2048, l_10000, l_25600, l_500000]) ?_
    cases c : H s with
    | none =>
      apply Ok.step (x := (-1 : Int32)) (by rw [rd_nI (by omega) (by decide), h1 c])
      apply Ok.jnU
      refine Ok.ifT rfl (Ok.ret ?_)
      have e : helds H s = 0 := by simp [helds, c]
      rw [sumN, e, nI_1]
      rw [show (0 : Int32) = nI 0 from rfl, nI_add]
    | some q =>
      have hq : q.2 ≤ 30 := (hH s hs q c).1
      apply Ok.step (x := nI q.2) (by rw [rd_nI (by omega) (by decide), (h2 q c).1])
      apply Ok.jnU
      have e : helds H s = 1 := by simp [helds, c]
      refine Ok.ifF ?_ (Ok.ret ?_)
      · simp (disch := omega) only [↓reduceIte, Option.bind_some, jn, lets, Sum.elim_inl, Sum.elim_inr, if_true, if_false, rd_nI, wr_nI, rd_z, rd_o, wr_z, wr_o, nI_1, nI_add, pk_mul, nI_leI, nI_ltI, nI_eq, z_le, le_z, z_lt, lt_z, eq_z, eq_o, le_o, o_le, lt_o, o_lt, eq_m1, eq_m2, m1_eq, m2_eq, m1_lt, m1_le, o_z, z_o, m1_z, m1_o, m2_z, m2_o, m2_m1, z_lz, z_lo, o_lz, o_ez, z_ez, z_eo, m2_lt, m2_le, leF, leT, ltF, ltT, eqF, eqT, bI_z, bI_o, sh1, sh0, not_true_eq_false, not_false_eq_true, ne_eq, Bool.true_eq_false, Bool.false_eq_true, true_and, and_true, false_and, and_false, l_2, l_3, l_4, l_5, l_6, l_7, l_8, l_9, l_10, l_11, l_12, l_13, l_14, l_15, l_16, l_17, l_18, l_19, l_20, l_21, l_22, l_23, l_24, l_25, l_26, l_27, l_28, l_29, l_30, l_32, l_33, l_34, l_35, l_36, l_37, l_38, l_39, l_50, l_60, l_99, l_100, l_150, l_160, l_240, l_250, l_300, l_400, l_402, l_403, l_420, l_500, l_600, l_840, l_1000, l_1024, l_2000, l_2047, l_2048, l_10000, l_25600, l_500000]
      · rw [sumN, e, nI_1, nI_1]
  · exact Ok.ifT (by simp (disch := omega) only [↓reduceIte, Option.bind_some, jn, lets, Sum.elim_inl, Sum.elim_inr, if_true, if_false, rd_nI, wr_nI, rd_z, rd_o, wr_z, wr_o, nI_1, nI_add, pk_mul, nI_leI, nI_ltI, nI_eq, z_le, le_z, z_lt, lt_z, eq_z, eq_o, le_o, o_le, lt_o, o_lt, eq_m1, eq_m2, m1_eq, m2_eq, m1_lt, m1_le, o_z, z_o, m1_z, m1_o, m2_z, m2_o, m2_m1, z_lz, z_lo, o_lz, o_ez, z_ez, z_eo, m2_lt, m2_le, leF, leT, ltF, ltT, eqF, eqT, bI_z, bI_o, sh1, sh0, not_true_eq_false, not_false_eq_true, ne_eq, Bool.true_eq_false, Bool.false_eq_true, true_and, and_true, false_and, and_false, l_2, l_3, l_4, l_5, l_6, l_7, l_8, l_9, l_10, l_11, l_12, l_13, l_14, l_15, l_16, l_17, l_18, l_19, l_20, l_21, l_22, l_23, l_24, l_25, l_26, l_27, l_28, l_29, l_30, l_32, l_33, l_34, l_35, l_36, l_37, l_38, l_39, l_50, l_60, l_99, l_100, l_150, l_160, l_240, l_250, l_300, l_400, l_402, l_403, l_420, l_500, l_600, l_840, l_1000, l_1024, l_2000, l_2047, l_2048, l_10000, l_25600, l_500000]) (Ok.ret rfl)

theorem r_slot (hR : RI W V sd P N H S) (hH : HWF W H) {s : Nat} (hs : s < 3) : ∃ v, rd (S.1 155) 3 (nI s) = some v ∧ (0 ≤ v ↔ helds H s = 1) ∧ (¬ 0 ≤ v ↔ helds H s = 0) := by
  obtain ⟨h1, h2⟩ := hR.2.2.2.1 s hs
  refine ⟨S.1 155 s, rd_nI hs (by decide), ?_⟩
  cases c : H s with
  | none =>
    rw [h1 c]
    have e : helds H s = 0 := by simp [helds, c]
    rw [e]
    decide
  | some q =>
    have hq : q.2 ≤ 30 := (hH s hs q c).1
    rw [(h2 q c).1]
    have e : helds H s = 1 := by simp [helds, c]
    rw [e]
    have := nI_pos' (n := q.2) (by omega)
    simp [this]
theorem q_count (hI : IV W V tw en sd P N H S) (hn : 30000 ≤ n) (hT : ∀ k, k < 10 → S.1 4 k = nI (cntN k)) (hL : S.1 8 1 = S.1 95 2) (x : Int32) : Sm (E_X11_count n S tw x) (E_X12_count n S x) := by
  obtain ⟨hW, hPW, hHW, hC, hR⟩ := hI
  have hsd := hR.1.1
  have hw := hC.1.1
  have hm0 : W 0 0 ≤ 6 := hW.mx (k := 0) (by decide)
  have hm2 : W 0 2 ≤ 6 := hW.mx (k := 2) (by decide)
  have hm7 : W 0 7 ≤ 6 := hW.mx (k := 7) (by decide)
  have hm8 : W 0 8 ≤ 4 := hW.mx (k := 8) (by decide)
  have cls : ∀ j, j < 10 → E_X11_count n S tw (nI j) = some (nI (W 0 (cntN j))) := by
    intro j hj
    have h1 := hT j hj
    have h2 : cntN j < 11 := by unfold cntN; split <;> omega
    unfold E_X11_count
    apply Ok.e
    apply Ok.jnU
    refine Ok.ifF (nI_pos (by omega)) (Ok.ifF (by simp (disch := omega) only [↓reduceIte, Option.bind_some, jn, lets, Sum.elim_inl, Sum.elim_inr, if_true, if_false, rd_nI, wr_nI, rd_z, rd_o, wr_z, wr_o, nI_1, nI_add, pk_mul, nI_leI, nI_ltI, nI_eq, z_le, le_z, z_lt, lt_z, eq_z, eq_o, le_o, o_le, lt_o, o_lt, eq_m1, eq_m2, m1_eq, m2_eq, m1_lt, m1_le, o_z, z_o, m1_z, m1_o, m2_z, m2_o, m2_m1, z_lz, z_lo, o_lz, o_ez, z_ez, z_eo, m2_lt, m2_le, leF, leT, ltF, ltT, eqF, eqT, bI_z, bI_o, sh1, sh0, not_true_eq_false, not_false_eq_true, ne_eq, Bool.true_eq_false, Bool.false_eq_true, true_and, and_true, false_and, and_false, l_2, l_3, l_4, l_5, l_6, l_7, l_8, l_9, l_10, l_11, l_12, l_13, l_14, l_15, l_16, l_17, l_18, l_19, l_20, l_21, l_22, l_23, l_24, l_25, l_26, l_27, l_28, l_29, l_30, l_32, l_33, l_34, l_35, l_36, l_37, l_38, l_39, l_50, l_60, l_99, l_100, l_150, l_160, l_240, l_250, l_300, l_400, l_402, l_403, l_420, l_500, l_600, l_840, l_1000, l_1024, l_2000, l_2047, l_2048, l_10000, l_25600, l_500000]) ?_)
    apply Ok.step (x := nI (cntN j)) (by rw [rd_nI (by omega) (by decide), h1])
    apply Ok.step (x := nI (W 0 (cntN j))) (by rw [rd_nI h2 (by decide), g_n hC.1 _ h2])
    exact Ok.ret rfl
  have t107 := t_107 hR.1
  have t125 := t_125 hR.1
  have tsd := t_sd hR.1
  cases c1 : vB x 13
  case true =>
    obtain ⟨j, hj, rfl⟩ := vB_t (by omega) c1
    match j, hj with
    | 0, _ => exact ⟨_, cls 0 (by decide), by unfold E_X12_count; exact Ok.e (Ok.jnU (Ok.ifT rfl (Ok.step (r_has (k := 0) hR.1 (by decide)) (Ok.ret rfl))))⟩
    | 1, _ => exact ⟨_, cls 1 (by decide), by unfold E_X12_count; exact Ok.e (Ok.jnU (Ok.ifF (by decide) (Ok.ifT rfl (Ok.step (r_has (k := 1) hR.1 (by decide)) (Ok.ret rfl)))))⟩
    | 2, _ => exact ⟨_, cls 2 (by decide), by unfold E_X12_count; exact Ok.e (Ok.jnU (Ok.ifF (by decide) (Ok.ifF (by decide) (Ok.ifT rfl (Ok.step (r_has (k := 2) hR.1 (by decide)) (Ok.ret rfl))))))⟩
    | 3, _ => exact ⟨_, cls 3 (by decide), by unfold E_X12_count; exact Ok.e (Ok.jnU (Ok.ifF (by decide) (Ok.ifF (by decide) (Ok.ifF (by decide) (Ok.ifT rfl (Ok.step (r_has (k := 3) hR.1 (by decide)) (Ok.ret rfl)))))))⟩
    | 4, _ => exact ⟨_, cls 4 (by decide), by unfold E_X12_count; exact Ok.e (Ok.jnU (Ok.ifF (by decide) (Ok.ifF (by decide) (Ok.ifF (by decide) (Ok.ifF (by decide) (Ok.ifT rfl (Ok.step (r_has (k := 4) hR.1 (by decide)) (Ok.ret rfl))))))))⟩
    | 5, _ => exact ⟨_, cls 5 (by decide), by unfold E_X12_count; exact Ok.e (Ok.jnU (Ok.ifF (by decide) (Ok.ifF (by decide) (Ok.ifF (by decide) (Ok.ifF (by decide) (Ok.ifF (by decide) (Ok.ifT rfl (Ok.step (r_has (k := 6) hR.1 (by decide)) (Ok.ret rfl)))))))))⟩
    | 6, _ => exact ⟨_, cls 6 (by decide), by unfold E_X12_count; exact Ok.e (Ok.jnU (Ok.ifF (by decide) (Ok.ifF (by decide) (Ok.ifF (by decide) (Ok.ifF (by decide) (Ok.ifF (by decide) (Ok.ifF (by decide) (Ok.ifT rfl (Ok.step (r_has (k := 7) hR.1 (by decide)) (Ok.ret rfl))))))))))⟩
    | 7, _ =>
      refine ⟨_, cls 7 (by decide), ?_⟩
      unfold E_X12_count
      refine Ok.e (Ok.jnU (Ok.ifF (by decide) (Ok.ifF (by decide) (Ok.ifF (by decide) (Ok.ifF (by decide) (Ok.ifF (by decide) (Ok.ifF (by decide) (Ok.ifF (by decide) (Ok.ifT rfl ?_)))))))))
      apply Ok.step (x := nI (W 0 8)) (by rw [tsd, rd_nI hsd (by decide), t107])
      exact Ok.ret rfl
    | 8, _ =>
      refine ⟨_, cls 8 (by decide), ?_⟩
      unfold E_X12_count
      refine Ok.e (Ok.jnU (Ok.ifF (by decide) (Ok.ifF (by decide) (Ok.ifF (by decide) (Ok.ifF (by decide) (Ok.ifF (by decide) (Ok.ifF (by decide) (Ok.ifF (by decide) (Ok.ifF (by decide) (Ok.ifT rfl ?_))))))))))
      have := t125 0 (by decide)
      rw [Nat.add_zero] at this
      apply Ok.step (x := nI (W 0 9)) (by simp (disch := omega) only [↓reduceIte, Option.bind_some, jn, lets, Sum.elim_inl, Sum.elim_inr, if_true, if_false, rd_nI, wr_nI, rd_z, rd_o, wr_z, wr_o, nI_1, nI_add, pk_mul, nI_leI, nI_ltI, nI_eq, z_le, le_z, z_lt, lt_z, eq_z, eq_o, le_o, o_le, lt_o, o_lt, eq_m1, eq_m2, m1_eq, m2_eq, m1_lt, m1_le, o_z, z_o, m1_z, m1_o, m2_z, m2_o, m2_m1, z_lz, z_lo, o_lz, o_ez, z_ez, z_eo, m2_lt, m2_le, leF, leT, ltF, ltT, eqF, eqT, bI_z, bI_o, sh1, sh0, not_true_eq_false, not_false_eq_true, ne_eq, Bool.true_eq_false, Bool.false_eq_true, true_and, and_true, false_and, and_false, l_2, l_3, l_4, l_5, l_6, l_7, l_8, l_9, l_10, l_11, l_12, l_13, l_14, l_15, l_16, l_17, l_18, l_19, l_20, l_21, l_22, l_23, l_24, l_25, l_26, l_27, l_28, l_29, l_30, l_32, l_33, l_34, l_35, l_36, l_37, l_38, l_39, l_50, l_60, l_99, l_100, l_150, l_160, l_240, l_250, l_300, l_400, l_402, l_403, l_420, l_500, l_600, l_840, l_1000, l_1024, l_2000, l_2047, l_2048, l_10000, l_25600, l_500000, tsd, this])
      exact Ok.ret rfl
    | 9, _ =>
      refine ⟨_, cls 9 (by decide), ?_⟩
      unfold E_X12_count
      refine Ok.e (Ok.jnU (Ok.ifF (by decide) (Ok.ifF (by decide) (Ok.ifF (by decide) (Ok.ifF (by decide) (Ok.ifF (by decide) (Ok.ifF (by decide) (Ok.ifF (by decide) (Ok.ifF (by decide) (Ok.ifF (by decide) (Ok.ifT rfl ?_)))))))))))
      have := t125 1 (by decide)
      apply Ok.step (x := nI (W 0 10)) (by simp (disch := omega) only [↓reduceIte, Option.bind_some, jn, lets, Sum.elim_inl, Sum.elim_inr, if_true, if_false, rd_nI, wr_nI, rd_z, rd_o, wr_z, wr_o, nI_1, nI_add, pk_mul, nI_leI, nI_ltI, nI_eq, z_le, le_z, z_lt, lt_z, eq_z, eq_o, le_o, o_le, lt_o, o_lt, eq_m1, eq_m2, m1_eq, m2_eq, m1_lt, m1_le, o_z, z_o, m1_z, m1_o, m2_z, m2_o, m2_m1, z_lz, z_lo, o_lz, o_ez, z_ez, z_eo, m2_lt, m2_le, leF, leT, ltF, ltT, eqF, eqT, bI_z, bI_o, sh1, sh0, not_true_eq_false, not_false_eq_true, ne_eq, Bool.true_eq_false, Bool.false_eq_true, true_and, and_true, false_and, and_false, l_2, l_3, l_4, l_5, l_6, l_7, l_8, l_9, l_10, l_11, l_12, l_13, l_14, l_15, l_16, l_17, l_18, l_19, l_20, l_21, l_22, l_23, l_24, l_25, l_26, l_27, l_28, l_29, l_30, l_32, l_33, l_34, l_35, l_36, l_37, l_38, l_39, l_50, l_60, l_99, l_100, l_150, l_160, l_240, l_250, l_300, l_400, l_402, l_403, l_420, l_500, l_600, l_840, l_1000, l_1024, l_2000, l_2047, l_2048, l_10000, l_25600, l_500000, tsd, this])
      exact Ok.ret rfl
    | 10, _ =>
      refine ⟨nI N, ?_, ?_⟩
      · unfold E_X11_count
        refine Ok.e (Ok.jnU (Ok.ifF (by decide) (Ok.ifT (by decide) (Ok.ifT rfl (Ok.ret hC.2.1.1)))))
      · unfold E_X12_count
        refine Ok.e (Ok.jnU (Ok.ifF (by decide) (Ok.ifF (by decide) (Ok.ifF (by decide) (Ok.ifF (by decide) (Ok.ifF (by decide) (Ok.ifF (by decide) (Ok.ifF (by decide) (Ok.ifF (by decide) (Ok.ifF (by decide) (Ok.ifF (by decide) (Ok.ifT rfl (Ok.ret hR.2.2.1.1)))))))))))))
    | 11, _ =>
      refine ⟨S.1 8 1, ?_, ?_⟩
      · unfold E_X11_count
        refine Ok.e (Ok.jnU (Ok.ifF (by decide) (Ok.ifT (by decide) (Ok.ifF (by decide) (Ok.ifT rfl (Ok.ret rfl))))))
      · unfold E_X12_count
        refine Ok.e (Ok.jnU (Ok.ifF (by decide) (Ok.ifF (by decide) (Ok.ifF (by decide) (Ok.ifF (by decide) (Ok.ifF (by decide) (Ok.ifF (by decide) (Ok.ifF (by decide) (Ok.ifF (by decide) (Ok.ifF (by decide) (Ok.ifF (by decide) (Ok.ifF (by decide) (Ok.ifT rfl (Ok.ret hL.symm))))))))))))))
    | 12, _ =>
      refine ⟨nI (sumN (helds H) 3), ?_, ?_⟩
      · unfold E_X11_count
        refine Ok.e (Ok.jnU (Ok.ifF (by decide) (Ok.ifT (by decide) (Ok.ifF (by decide) (Ok.ifF (by decide) (Ok.ifT rfl ?_))))))
        exact Ok.step (c_slots hC hHW hn) (Ok.ret rfl)
      · unfold E_X12_count
        refine Ok.e (Ok.jnU (Ok.ifF (by decide) (Ok.ifF (by decide) (Ok.ifF (by decide) (Ok.ifF (by decide) (Ok.ifF (by decide) (Ok.ifF (by decide) (Ok.ifF (by decide) (Ok.ifF (by decide) (Ok.ifF (by decide) (Ok.ifF (by decide) (Ok.ifF (by decide) (Ok.ifF (by decide) (Ok.ifT rfl ?_))))))))))))))
        obtain ⟨v0, e0, f0, g0⟩ := r_slot hR hHW (s := 0) (by decide)
        obtain ⟨v1, e1, f1, g1⟩ := r_slot hR hHW (s := 1) (by decide)
        obtain ⟨v2, e2, f2, g2⟩ := r_slot hR hHW (s := 2) (by decide)
        have es : sumN (helds H) 3 = helds H 0 + helds H 1 + helds H 2 := by
          rw [sumN, sumN, sumN, sumN]; omega
        rw [es]
        apply Ok.step e0
        refine jnH1 (fun u => u = nI (helds H 0)) ?_ ?_
        rotate_left
        · intro J hJ
          by_cases c : 0 ≤ v0
          · exact Ok.ifT c (hJ _ (by rw [f0.mp c]; rfl))
          · exact Ok.ifF c (hJ _ (by rw [g0.mp c]; rfl))
        rintro _ rfl
        apply Ok.step e1
        refine jnH1 (fun u => u = nI (helds H 1)) ?_ ?_
        rotate_left
        · intro J hJ
          by_cases c : 0 ≤ v1
          · exact Ok.ifT c (hJ _ (by rw [f1.mp c]; rfl))
          · exact Ok.ifF c (hJ _ (by rw [g1.mp c]; rfl))
        rintro _ rfl
        apply Ok.step e2
        refine jnH1 (fun u => u = nI (helds H 2)) ?_ ?_
        rotate_left
        · intro J hJ
          by_cases c : 0 ≤ v2
          · exact Ok.ifT c (hJ _ (by rw [f2.mp c]; rfl))
          · exact Ok.ifF c (hJ _ (by rw [g2.mp c]; rfl))
        rintro _ rfl
        exact Ok.ret (by rw [nI_add, nI_add])
  have ne : ∀ k, k < 13 → x ≠ nI k := fun k hk e => by
    rw [e, vB_nI (by decide) hk] at c1
    cases c1
  have rIs : ∀ (c k : Nat), E_X12_isThing n S (x - nI 20) = some (bI (vB (x - nI 20) (W 0 2))) := fun _ _ => r_vT hR.1 hW
  have rS : E_X12_in n S (x - nI 30) 0 (nI (W 0 8) - 1) = some (bI (vB (x - nI 30) (W 0 8))) := r_inB (by omega)
  have i2 : E_X11_isOne n S tw (2 : Int32) (x - nI 20) = some (bI (vB (x - nI 20) (W 0 2))) := c_vOne (k := 2) hC.1 hW (by decide)
  have i7 : E_X11_isOne n S tw (7 : Int32) (x - nI 40) = some (bI (vB (x - nI 40) (W 0 7))) := c_vOne (k := 7) hC.1 hW (by decide)
  have i8 : E_X11_isOne n S tw (8 : Int32) (x - nI 30) = some (bI (vB (x - nI 30) (W 0 8))) := c_vOne (k := 8) hC.1 hW (by decide)
  -- the class
  have cOne : ∀ v, E_X11_countOfOne n S tw x = some v → E_X11_count n S tw x = some v := by
    intro v hv
    unfold E_X11_count
    refine Ok.e (jnH0 (R := fun r => r = v) ?_ ?_)
    · exact Ok.ifF (ne 10 (by decide)) (Ok.ifF (ne 11 (by decide)) (Ok.ifF (ne 12 (by decide)) (Ok.step hv (Ok.ret rfl))))
    · intro J hJ
      by_cases c : x < 0
      · exact Ok.ifT c hJ
      · refine Ok.ifF c (Ok.ifT ?_ hJ)
        obtain ⟨j, hj, rfl⟩ := nI_of c
        have : 13 ≤ j := by
          by_cases c2 : 13 ≤ j
          · exact c2
          · exact absurd rfl (ne j (by omega))
        exact nI_le (a := 10) (by omega) hj
  have rOne : ∀ v, Ok ((E_X12_isThing n S (x - (20 : Int32))).bind fun v33 => if v33 = 0 then (rd (S.1 107) 2 (S.1 95 18)).bind fun v35 => (E_X12_in n S (x - (30 : Int32)) (0 : Int32) (v35 - (1 : Int32))).bind fun v36 => if v36 = 0 then (E_X12_isAct n S (x - (40 : Int32))).bind fun v38 => if v38 = 0 then some (-1 : Int32) else (rd (S.1 123) 12 ((((6 : Int32) * (S.1 95 18)) + x) - (40 : Int32))).bind fun v40 => some v40 else (rd (S.1 124) 8 ((((4 : Int32) * (S.1 95 18)) + x) - (30 : Int32))).bind fun v41 => (E_X12_bits n S v41).bind fun v42 => some v42 else (rd (S.1 110) 12 ((((6 : Int32) * (S.1 95 18)) + x) - (20 : Int32))).bind fun v43 => some v43) (fun r => r = v) → E_X12_count n S x = some v := by
    intro v hv
    unfold E_X12_count
    exact Ok.e (Ok.jnU (Ok.ifF (ne 0 (by decide)) (Ok.ifF (ne 1 (by decide)) (Ok.ifF (ne 2 (by decide)) (Ok.ifF (ne 3 (by decide)) (Ok.ifF (ne 4 (by decide)) (Ok.ifF (ne 5 (by decide)) (Ok.ifF (ne 6 (by decide)) (Ok.ifF (ne 7 (by decide)) (Ok.ifF (ne 8 (by decide)) (Ok.ifF (ne 9 (by decide)) (Ok.ifF (ne 10 (by decide)) (Ok.ifF (ne 11 (by decide)) (Ok.ifF (ne 12 (by decide)) hv))))))))))))))
  have rT : E_X12_isThing n S (x - (20 : Int32)) = some (bI (vB (x - nI 20) (W 0 2))) := r_vT hR.1 hW
  have rA : E_X12_isAct n S (x - (40 : Int32)) = some (bI (vB (x - nI 40) (W 0 7))) := r_vA hR.1 hW
  have rd107 : rd (S.1 107) 2 (S.1 95 18) = some (nI (W 0 8)) := by rw [tsd, rd_nI hsd (by decide), t107]
  cases d1 : vB (x - nI 20) (W 0 2)
  case true =>
    obtain ⟨j, hj, rfl⟩ := vB_sub (by omega) d1
    refine ⟨nI (W 3 j), cOne _ ?_, rOne _ ?_⟩
    · unfold E_X11_countOfOne
      apply Ok.e
      apply Ok.jnU
      refine Ok.ifF (by simp (disch := omega) only [↓reduceIte, Option.bind_some, jn, lets, Sum.elim_inl, Sum.elim_inr, if_true, if_false, rd_nI, wr_nI, rd_z, rd_o, wr_z, wr_o, nI_1, nI_add, pk_mul, nI_leI, nI_ltI, nI_eq, z_le, le_z, z_lt, lt_z, eq_z, eq_o, le_o, o_le, lt_o, o_lt, eq_m1, eq_m2, m1_eq, m2_eq, m1_lt, m1_le, o_z, z_o, m1_z, m1_o, m2_z, m2_o, m2_m1, z_lz, z_lo, o_lz, o_ez, z_ez, z_eo, m2_lt, m2_le, leF, leT, ltF, ltT, eqF, eqT, bI_z, bI_o, sh1, sh0, not_true_eq_false, not_false_eq_true, ne_eq, Bool.true_eq_false, Bool.false_eq_true, true_and, and_true, false_and, and_false, l_2, l_3, l_4, l_5, l_6, l_7, l_8, l_9, l_10, l_11, l_12, l_13, l_14, l_15, l_16, l_17, l_18, l_19, l_20, l_21, l_22, l_23, l_24, l_25, l_26, l_27, l_28, l_29, l_30, l_32, l_33, l_34, l_35, l_36, l_37, l_38, l_39, l_50, l_60, l_99, l_100, l_150, l_160, l_240, l_250, l_300, l_400, l_402, l_403, l_420, l_500, l_600, l_840, l_1000, l_1024, l_2000, l_2047, l_2048, l_10000, l_25600, l_500000]) ?_
      apply Ok.step i2
      rw [d1]
      refine Ok.ifF (by decide) ?_
      apply Ok.step (x := nI (W 3 j)) (by simp (disch := omega) only [↓reduceIte, Option.bind_some, jn, lets, Sum.elim_inl, Sum.elim_inr, if_true, if_false, rd_nI, wr_nI, rd_z, rd_o, wr_z, wr_o, nI_1, nI_add, pk_mul, nI_leI, nI_ltI, nI_eq, z_le, le_z, z_lt, lt_z, eq_z, eq_o, le_o, o_le, lt_o, o_lt, eq_m1, eq_m2, m1_eq, m2_eq, m1_lt, m1_le, o_z, z_o, m1_z, m1_o, m2_z, m2_o, m2_m1, z_lz, z_lo, o_lz, o_ez, z_ez, z_eo, m2_lt, m2_le, leF, leT, ltF, ltT, eqF, eqT, bI_z, bI_o, sh1, sh0, not_true_eq_false, not_false_eq_true, ne_eq, Bool.true_eq_false, Bool.false_eq_true, true_and, and_true, false_and, and_false, l_2, l_3, l_4, l_5, l_6, l_7, l_8, l_9, l_10, l_11, l_12, l_13, l_14, l_15, l_16, l_17, l_18, l_19, l_20, l_21, l_22, l_23, l_24, l_25, l_26, l_27, l_28, l_29, l_30, l_32, l_33, l_34, l_35, l_36, l_37, l_38, l_39, l_50, l_60, l_99, l_100, l_150, l_160, l_240, l_250, l_300, l_400, l_402, l_403, l_420, l_500, l_600, l_840, l_1000, l_1024, l_2000, l_2047, l_2048, l_10000, l_25600, l_500000, nI_subC, g_wor hC.1])
      exact Ok.ret rfl
    · apply Ok.step rT
      rw [d1]
      refine Ok.ifF (by decide) ?_
      apply Ok.step (x := nI (W 3 j)) (by simp (disch := omega) only [↓reduceIte, Option.bind_some, jn, lets, Sum.elim_inl, Sum.elim_inr, if_true, if_false, rd_nI, wr_nI, rd_z, rd_o, wr_z, wr_o, nI_1, nI_add, pk_mul, nI_leI, nI_ltI, nI_eq, z_le, le_z, z_lt, lt_z, eq_z, eq_o, le_o, o_le, lt_o, o_lt, eq_m1, eq_m2, m1_eq, m2_eq, m1_lt, m1_le, o_z, z_o, m1_z, m1_o, m2_z, m2_o, m2_m1, z_lz, z_lo, o_lz, o_ez, z_ez, z_eo, m2_lt, m2_le, leF, leT, ltF, ltT, eqF, eqT, bI_z, bI_o, sh1, sh0, not_true_eq_false, not_false_eq_true, ne_eq, Bool.true_eq_false, Bool.false_eq_true, true_and, and_true, false_and, and_false, l_2, l_3, l_4, l_5, l_6, l_7, l_8, l_9, l_10, l_11, l_12, l_13, l_14, l_15, l_16, l_17, l_18, l_19, l_20, l_21, l_22, l_23, l_24, l_25, l_26, l_27, l_28, l_29, l_30, l_32, l_33, l_34, l_35, l_36, l_37, l_38, l_39, l_50, l_60, l_99, l_100, l_150, l_160, l_240, l_250, l_300, l_400, l_402, l_403, l_420, l_500, l_600, l_840, l_1000, l_1024, l_2000, l_2047, l_2048, l_10000, l_25600, l_500000, tsd, nI_subR, t_110 hR.1])
      exact Ok.ret rfl
  cases d2 : vB (x - nI 30) (W 0 8)
  case true =>
    obtain ⟨j, hj, rfl⟩ := vB_sub (by omega) d2
    have e17 : nI (W 17 j) = bs (fun t => (W 17 j).testBit t) 6 := by
      have h17 := hW.2.2.2.2.2.2.2.2 j hj
      have h64 : 2 ^ W 0 2 ≤ 2 ^ 6 := Nat.pow_le_pow_right (by decide) hm2
      refine bs_of (by decide) (fun t ht => ?_)
      rw [bt_nI _ _ (by omega)]
      by_cases c : t < 6
      · simp [c]
      · have : 2 ^ 6 ≤ 2 ^ t := Nat.pow_le_pow_right (by decide) (by omega)
        simp [c, Nat.testBit_lt_two_pow (show W 17 j < 2 ^ t by omega)]
    refine ⟨nI (cnt (fun t => (W 17 j).testBit t) 6), cOne _ ?_, rOne _ ?_⟩
    · unfold E_X11_countOfOne
      apply Ok.e
      refine jnH0 ?_ ?_
      rotate_left
      · intro J hJ
        refine Ok.ifF (by simp (disch := omega) only [↓reduceIte, Option.bind_some, jn, lets, Sum.elim_inl, Sum.elim_inr, if_true, if_false, rd_nI, wr_nI, rd_z, rd_o, wr_z, wr_o, nI_1, nI_add, pk_mul, nI_leI, nI_ltI, nI_eq, z_le, le_z, z_lt, lt_z, eq_z, eq_o, le_o, o_le, lt_o, o_lt, eq_m1, eq_m2, m1_eq, m2_eq, m1_lt, m1_le, o_z, z_o, m1_z, m1_o, m2_z, m2_o, m2_m1, z_lz, z_lo, o_lz, o_ez, z_ez, z_eo, m2_lt, m2_le, leF, leT, ltF, ltT, eqF, eqT, bI_z, bI_o, sh1, sh0, not_true_eq_false, not_false_eq_true, ne_eq, Bool.true_eq_false, Bool.false_eq_true, true_and, and_true, false_and, and_false, l_2, l_3, l_4, l_5, l_6, l_7, l_8, l_9, l_10, l_11, l_12, l_13, l_14, l_15, l_16, l_17, l_18, l_19, l_20, l_21, l_22, l_23, l_24, l_25, l_26, l_27, l_28, l_29, l_30, l_32, l_33, l_34, l_35, l_36, l_37, l_38, l_39, l_50, l_60, l_99, l_100, l_150, l_160, l_240, l_250, l_300, l_400, l_402, l_403, l_420, l_500, l_600, l_840, l_1000, l_1024, l_2000, l_2047, l_2048, l_10000, l_25600, l_500000]) ?_
        apply Ok.step i2
        rw [d1]
        exact Ok.ifT rfl hJ
      apply Ok.jnU
      refine Ok.ifF (by simp (disch := omega) only [↓reduceIte, Option.bind_some, jn, lets, Sum.elim_inl, Sum.elim_inr, if_true, if_false, rd_nI, wr_nI, rd_z, rd_o, wr_z, wr_o, nI_1, nI_add, pk_mul, nI_leI, nI_ltI, nI_eq, z_le, le_z, z_lt, lt_z, eq_z, eq_o, le_o, o_le, lt_o, o_lt, eq_m1, eq_m2, m1_eq, m2_eq, m1_lt, m1_le, o_z, z_o, m1_z, m1_o, m2_z, m2_o, m2_m1, z_lz, z_lo, o_lz, o_ez, z_ez, z_eo, m2_lt, m2_le, leF, leT, ltF, ltT, eqF, eqT, bI_z, bI_o, sh1, sh0, not_true_eq_false, not_false_eq_true, ne_eq, Bool.true_eq_false, Bool.false_eq_true, true_and, and_true, false_and, and_false, l_2, l_3, l_4, l_5, l_6, l_7, l_8, l_9, l_10, l_11, l_12, l_13, l_14, l_15, l_16, l_17, l_18, l_19, l_20, l_21, l_22, l_23, l_24, l_25, l_26, l_27, l_28, l_29, l_30, l_32, l_33, l_34, l_35, l_36, l_37, l_38, l_39, l_50, l_60, l_99, l_100, l_150, l_160, l_240, l_250, l_300, l_400, l_402, l_403, l_420, l_500, l_600, l_840, l_1000, l_1024, l_2000, l_2047, l_2048, l_10000, l_25600, l_500000]) ?_
      apply Ok.step i8
      rw [d2]
      refine Ok.ifF (by decide) ?_
      apply Ok.step (x := nI (W 17 j)) (by simp (disch := omega) only [↓reduceIte, Option.bind_some, jn, lets, Sum.elim_inl, Sum.elim_inr, if_true, if_false, rd_nI, wr_nI, rd_z, rd_o, wr_z, wr_o, nI_1, nI_add, pk_mul, nI_leI, nI_ltI, nI_eq, z_le, le_z, z_lt, lt_z, eq_z, eq_o, le_o, o_le, lt_o, o_lt, eq_m1, eq_m2, m1_eq, m2_eq, m1_lt, m1_le, o_z, z_o, m1_z, m1_o, m2_z, m2_o, m2_m1, z_lz, z_lo, o_lz, o_ez, z_ez, z_eo, m2_lt, m2_le, leF, leT, ltF, ltT, eqF, eqT, bI_z, bI_o, sh1, sh0, not_true_eq_false, not_false_eq_true, ne_eq, Bool.true_eq_false, Bool.false_eq_true, true_and, and_true, false_and, and_false, l_2, l_3, l_4, l_5, l_6, l_7, l_8, l_9, l_10, l_11, l_12, l_13, l_14, l_15, l_16, l_17, l_18, l_19, l_20, l_21, l_22, l_23, l_24, l_25, l_26, l_27, l_28, l_29, l_30, l_32, l_33, l_34, l_35, l_36, l_37, l_38, l_39, l_50, l_60, l_99, l_100, l_150, l_160, l_240, l_250, l_300, l_400, l_402, l_403, l_420, l_500, l_600, l_840, l_1000, l_1024, l_2000, l_2047, l_2048, l_10000, l_25600, l_500000, nI_subC, g_ta hC.1])
      apply Ok.step (x := nI (cnt (fun t => (W 17 j).testBit t) 6)) (by rw [e17]; exact c_bitCount (by decide))
      exact Ok.ret rfl
    · apply Ok.step rT
      rw [d1]
      refine Ok.ifT rfl ?_
      apply Ok.step rd107
      apply Ok.step rS
      rw [d2]
      refine Ok.ifF (by decide) ?_
      apply Ok.step (x := nI (W 17 j)) (by simp (disch := omega) only [↓reduceIte, Option.bind_some, jn, lets, Sum.elim_inl, Sum.elim_inr, if_true, if_false, rd_nI, wr_nI, rd_z, rd_o, wr_z, wr_o, nI_1, nI_add, pk_mul, nI_leI, nI_ltI, nI_eq, z_le, le_z, z_lt, lt_z, eq_z, eq_o, le_o, o_le, lt_o, o_lt, eq_m1, eq_m2, m1_eq, m2_eq, m1_lt, m1_le, o_z, z_o, m1_z, m1_o, m2_z, m2_o, m2_m1, z_lz, z_lo, o_lz, o_ez, z_ez, z_eo, m2_lt, m2_le, leF, leT, ltF, ltT, eqF, eqT, bI_z, bI_o, sh1, sh0, not_true_eq_false, not_false_eq_true, ne_eq, Bool.true_eq_false, Bool.false_eq_true, true_and, and_true, false_and, and_false, l_2, l_3, l_4, l_5, l_6, l_7, l_8, l_9, l_10, l_11, l_12, l_13, l_14, l_15, l_16, l_17, l_18, l_19, l_20, l_21, l_22, l_23, l_24, l_25, l_26, l_27, l_28, l_29, l_30, l_32, l_33, l_34, l_35, l_36, l_37, l_38, l_39, l_50, l_60, l_99, l_100, l_150, l_160, l_240, l_250, l_300, l_400, l_402, l_403, l_420, l_500, l_600, l_840, l_1000, l_1024, l_2000, l_2047, l_2048, l_10000, l_25600, l_500000, tsd, nI_subR, t_124 hR.1])
      apply Ok.step (x := nI (cnt (fun t => (W 17 j).testBit t) 6)) (by
        rw [e17, r_bits hn, cnt_ext (m := 6) (Q := fun t => (W 17 j).testBit t) (by decide) (fun i _ => bt_bs _ _ (by decide) i)])
      exact Ok.ret rfl
  cases d3 : vB (x - nI 40) (W 0 7)
  case true =>
    obtain ⟨j, hj, rfl⟩ := vB_sub (by omega) d3
    refine ⟨nI (W 16 j), cOne _ ?_, rOne _ ?_⟩
    · unfold E_X11_countOfOne
      apply Ok.e
      refine jnH0 ?_ ?_
      rotate_left
      · intro J hJ
        refine Ok.ifF (by simp (disch := omega) only [↓reduceIte, Option.bind_some, jn, lets, Sum.elim_inl, Sum.elim_inr, if_true, if_false, rd_nI, wr_nI, rd_z, rd_o, wr_z, wr_o, nI_1, nI_add, pk_mul, nI_leI, nI_ltI, nI_eq, z_le, le_z, z_lt, lt_z, eq_z, eq_o, le_o, o_le, lt_o, o_lt, eq_m1, eq_m2, m1_eq, m2_eq, m1_lt, m1_le, o_z, z_o, m1_z, m1_o, m2_z, m2_o, m2_m1, z_lz, z_lo, o_lz, o_ez, z_ez, z_eo, m2_lt, m2_le, leF, leT, ltF, ltT, eqF, eqT, bI_z, bI_o, sh1, sh0, not_true_eq_false, not_false_eq_true, ne_eq, Bool.true_eq_false, Bool.false_eq_true, true_and, and_true, false_and, and_false, l_2, l_3, l_4, l_5, l_6, l_7, l_8, l_9, l_10, l_11, l_12, l_13, l_14, l_15, l_16, l_17, l_18, l_19, l_20, l_21, l_22, l_23, l_24, l_25, l_26, l_27, l_28, l_29, l_30, l_32, l_33, l_34, l_35, l_36, l_37, l_38, l_39, l_50, l_60, l_99, l_100, l_150, l_160, l_240, l_250, l_300, l_400, l_402, l_403, l_420, l_500, l_600, l_840, l_1000, l_1024, l_2000, l_2047, l_2048, l_10000, l_25600, l_500000]) ?_
        apply Ok.step i2
        rw [d1]
        exact Ok.ifT rfl hJ
      refine jnH0 ?_ ?_
      rotate_left
      · intro J hJ
        refine Ok.ifF (by simp (disch := omega) only [↓reduceIte, Option.bind_some, jn, lets, Sum.elim_inl, Sum.elim_inr, if_true, if_false, rd_nI, wr_nI, rd_z, rd_o, wr_z, wr_o, nI_1, nI_add, pk_mul, nI_leI, nI_ltI, nI_eq, z_le, le_z, z_lt, lt_z, eq_z, eq_o, le_o, o_le, lt_o, o_lt, eq_m1, eq_m2, m1_eq, m2_eq, m1_lt, m1_le, o_z, z_o, m1_z, m1_o, m2_z, m2_o, m2_m1, z_lz, z_lo, o_lz, o_ez, z_ez, z_eo, m2_lt, m2_le, leF, leT, ltF, ltT, eqF, eqT, bI_z, bI_o, sh1, sh0, not_true_eq_false, not_false_eq_true, ne_eq, Bool.true_eq_false, Bool.false_eq_true, true_and, and_true, false_and, and_false, l_2, l_3, l_4, l_5, l_6, l_7, l_8, l_9, l_10, l_11, l_12, l_13, l_14, l_15, l_16, l_17, l_18, l_19, l_20, l_21, l_22, l_23, l_24, l_25, l_26, l_27, l_28, l_29, l_30, l_32, l_33, l_34, l_35, l_36, l_37, l_38, l_39, l_50, l_60, l_99, l_100, l_150, l_160, l_240, l_250, l_300, l_400, l_402, l_403, l_420, l_500, l_600, l_840, l_1000, l_1024, l_2000, l_2047, l_2048, l_10000, l_25600, l_500000]) ?_
        apply Ok.step i8
        rw [d2]
        exact Ok.ifT rfl hJ
      refine Ok.ifF (nI_nlt (b := 40) (by omega) (by omega)) ?_
      apply Ok.step i7
      rw [d3]
      refine Ok.ifF (by decide) ?_
      apply Ok.step (x := nI (W 16 j)) (by simp (disch := omega) only [↓reduceIte, Option.bind_some, jn, lets, Sum.elim_inl, Sum.elim_inr, if_true, if_false, rd_nI, wr_nI, rd_z, rd_o, wr_z, wr_o, nI_1, nI_add, pk_mul, nI_leI, nI_ltI, nI_eq, z_le, le_z, z_lt, lt_z, eq_z, eq_o, le_o, o_le, lt_o, o_lt, eq_m1, eq_m2, m1_eq, m2_eq, m1_lt, m1_le, o_z, z_o, m1_z, m1_o, m2_z, m2_o, m2_m1, z_lz, z_lo, o_lz, o_ez, z_ez, z_eo, m2_lt, m2_le, leF, leT, ltF, ltT, eqF, eqT, bI_z, bI_o, sh1, sh0, not_true_eq_false, not_false_eq_true, ne_eq, Bool.true_eq_false, Bool.false_eq_true, true_and, and_true, false_and, and_false, l_2, l_3, l_4, l_5, l_6, l_7, l_8, l_9, l_10, l_11, l_12, l_13, l_14, l_15, l_16, l_17, l_18, l_19, l_20, l_21, l_22, l_23, l_24, l_25, l_26, l_27, l_28, l_29, l_30, l_32, l_33, l_34, l_35, l_36, l_37, l_38, l_39, l_50, l_60, l_99, l_100, l_150, l_160, l_240, l_250, l_300, l_400, l_402, l_403, l_420, l_500, l_600, l_840, l_1000, l_1024, l_2000, l_2047, l_2048, l_10000, l_25600, l_500000, show (40 : Int32) = nI 40 from rfl, nI_subC, g_ac hC.1])
      exact Ok.ret rfl
    · apply Ok.step rT
      rw [d1]
      refine Ok.ifT rfl ?_
      apply Ok.step rd107
      apply Ok.step rS
      rw [d2]
      refine Ok.ifT rfl ?_
      apply Ok.step rA
      rw [d3]
      refine Ok.ifF (by decide) ?_
      apply Ok.step (x := nI (W 16 j)) (by simp (disch := omega) only [↓reduceIte, Option.bind_some, jn, lets, Sum.elim_inl, Sum.elim_inr, if_true, if_false, rd_nI, wr_nI, rd_z, rd_o, wr_z, wr_o, nI_1, nI_add, pk_mul, nI_leI, nI_ltI, nI_eq, z_le, le_z, z_lt, lt_z, eq_z, eq_o, le_o, o_le, lt_o, o_lt, eq_m1, eq_m2, m1_eq, m2_eq, m1_lt, m1_le, o_z, z_o, m1_z, m1_o, m2_z, m2_o, m2_m1, z_lz, z_lo, o_lz, o_ez, z_ez, z_eo, m2_lt, m2_le, leF, leT, ltF, ltT, eqF, eqT, bI_z, bI_o, sh1, sh0, not_true_eq_false, not_false_eq_true, ne_eq, Bool.true_eq_false, Bool.false_eq_true, true_and, and_true, false_and, and_false, l_2, l_3, l_4, l_5, l_6, l_7, l_8, l_9, l_10, l_11, l_12, l_13, l_14, l_15, l_16, l_17, l_18, l_19, l_20, l_21, l_22, l_23, l_24, l_25, l_26, l_27, l_28, l_29, l_30, l_32, l_33, l_34, l_35, l_36, l_37, l_38, l_39, l_50, l_60, l_99, l_100, l_150, l_160, l_240, l_250, l_300, l_400, l_402, l_403, l_420, l_500, l_600, l_840, l_1000, l_1024, l_2000, l_2047, l_2048, l_10000, l_25600, l_500000, tsd, show (40 : Int32) = nI 40 from rfl, nI_subR, t_123 hR.1])
      exact Ok.ret rfl
  refine ⟨-1, cOne _ ?_, rOne _ ?_⟩
  · unfold E_X11_countOfOne
    apply Ok.e
    refine jnH0 (jnH0 (Ok.ifC (fun _ => Ok.ret rfl) (fun _ => ?_)) (fun J hJ => Ok.ifC (fun _ => hJ) (fun _ => ?_))) (fun J hJ => Ok.ifC (fun _ => hJ) (fun _ => ?_))
    · apply Ok.step i7
      rw [d3]
      exact Ok.ifT rfl (Ok.ret rfl)
    · apply Ok.step i8
      rw [d2]
      exact Ok.ifT rfl hJ
    · apply Ok.step i2
      rw [d1]
      exact Ok.ifT rfl hJ
  · apply Ok.step rT
    rw [d1]
    refine Ok.ifT rfl ?_
    apply Ok.step rd107
    apply Ok.step rS
    rw [d2]
    refine Ok.ifT rfl ?_
    apply Ok.step rA
    rw [d3]
    exact Ok.ifT rfl (Ok.ret rfl)
end CNT
