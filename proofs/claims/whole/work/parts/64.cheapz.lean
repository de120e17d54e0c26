/-! ===== cheap and cheapAt, both sides ===== -/
theorem rcv_k {α : Type} {K : AK} {R : Nat → Nat → Option Nat} {S : ST} {ci t : Nat} {u : Option α} (h : K[t]? = some (.inl ci)) (h8 : 8 ≤ t) : rcv ci (mkM K R S) t u = u := by
  unfold rcv; exact if_pos ⟨h, h8⟩
theorem F_leastWay_of {K : AK} {R : Nat → Nat → Option Nat} {S : ST} {n t w : Nat} {a b : Int32} {o : Int32 × AM} (h : K[t]? = some (.inl 0)) (h8 : 8 ≤ t) (e : F_X0_least n 26 (mkM K R S) t w a b = some o) : F_X0_leastWay n (mkM K R S) t w a b = some o := by
  unfold F_X0_leastWay
  rw [rcv_k h h8, e] <;> rfl
section QCH
variable {W : VW} {V : VL} {tw en sd : Nat} {P : PL} {N : Nat} {H : HL} {n : Nat} {S S' : ST} {K0 K : AK} {R : Nat → Nat → Option Nat}
theorem r_vCheap (hR : RRep W sd S) (hW : WF W) {x y z u : Int32} : E_X12_isCheap n S x y z u = some (bI (vB x (W 0 1) && (vB y (W 0 2) && (vS z (W 0 1) && vB u 24)))) := by
  have h0 : vB (0 : Int32) 4 = true := by decide
  unfold E_X12_isCheap
  rw [r_vP hR hW, Option.bind_some, r_isSoon hR hW, h0]
  cases vB x (W 0 1) <;> cases vB y (W 0 2) <;> cases vS z (W 0 1) <;> cases vB u 24 <;> rfl
theorem XAm_ne {a j : Nat} (h : ¬ (a = 161 ∨ (a = 90 ∧ (j = 0 ∨ j = 1)))) : XAm a j = false := by
  simp only [XAm, Bool.or_eq_false_iff, Bool.and_eq_false_iff, beq_eq_false_iff_ne]
  omega
theorem CI.ch (hC : CI W V tw en P N H S) (d : Df XAm S S') (hJ : ChI W V 161 S') : CI W V tw 161 P N H S' := by
  obtain ⟨h1, h2, h3, h4, h5, h6⟩ := hC
  have hw := h1.1
  refine ⟨h1.df d (fun a j h => XAm_ne (by omega)), h2.df d (fun a j h => XAm_ne (by omega)), h3.df d (fun a j _ _ => XAm_ne (by omega)), ?_, ?_, hJ⟩
  · rw [d.2 8 10 (XAm_ne (by omega))]
    rcases h4 with z | z
    · exact Or.inl z
    · exact Or.inr ⟨z.1, z.2.df d (fun a j h => XAm_ne (by omega))⟩
  · rw [d.2 92 3 (XAm_ne (by omega))]
    rcases h5 with z | z
    · exact Or.inl z
    · exact Or.inr ⟨z.1, z.2.df d (fun a j h => XAm_ne (by omega))⟩
theorem XAm_XCl (d : Df XAm S S') : Df XCl S S' := d.mono (fun a j hx => by
  refine XAm_ne ?_
  simp only [XCl, decide_eq_false_iff_not] at hx
  omega)
theorem XAm_XQA (d : Df XAm S S') : Df XQA S S' := d.mono (fun a j hx => by
  refine XAm_ne ?_
  rintro (rfl | ⟨rfl, _⟩)
  · simp [XQA] at hx
  · simp [XQA] at hx)
theorem Xc_XAm (d : Df (Xc 161) S S') : Df XAm S S' := d.mono (fun a j hx => by
  simp only [XAm, Xc, Bool.or_eq_false_iff, beq_eq_false_iff_ne] at hx ⊢
  exact hx.1)
theorem XCh_XSR (d : Df XCh S S') : Df XSR S S' := d.mono (fun a j hx => by
  simp only [XSR, XCh, XOp, XM, decide_eq_false_iff_not, Bool.or_eq_false_iff, Bool.and_eq_false_iff, beq_eq_false_iff_ne] at hx ⊢
  omega)
theorem XCh_73 (d : Df XCh S S') : S'.1 95 73 = S.1 95 73 := d.2 _ _ rfl
theorem ChJ.I {q t : Nat} (h : ChJ W V q t S) (hq : q < W 0 1) (ht : t < W 0 2) : ChI W V 161 S := ⟨Or.inr rfl, Or.inr ⟨q, t, hq, ht, rfl, h.1, h.2.1, h.2.2⟩⟩
theorem F_cheap_in {q t z h0 b : Nat} (hn : 30000 ≤ n) (hLy : LyP K0 K R tw en) (hz0 : S.2 161 = fun _ => 0) (hC : CI W V tw en P N H S) (hW : WF W) (hq : q < W 0 1) (ht : t < W 0 2) (hz : z < 2 ^ W 0 1) (hh : h0 < 24) (hb : b < 2) :
    ∃ K' R' S1, F_X11_cheap n (mkM K R S) 8 (nI q) (nI t) (nI z) (nI h0) (nI b) = some ((if chOpt W V q t (24 - h0) z = 500000 then -2 else if b = 0 then nI (chOpt W V q t (24 - h0) z / 32) else nI (chOpt W V q t (24 - h0) z % 32)), mkM K' R' S1) ∧ LyP K0 K' R' tw 161 ∧ Df XAm S S1 ∧ ChJ W V q t S1 := by
  have hm1 : W 0 1 ≤ 10 := hW.mx (k := 1) (by decide)
  have hm2 : W 0 2 ≤ 6 := hW.mx (k := 2) (by decide)
  have hpow : 2 ^ W 0 1 ≤ 2 ^ 10 := Nat.pow_le_pow_right (by decide) hm1
  have hL := hLy.1
  have e1 : F_X11_isOne n (mkM K R S) 8 (1 : Int32) (nI q) = some 1 := E_X11_isOne_ok hn hL (by rw [c_v1 hC.1 hW, vB_nI (by omega) hq]; rfl)
  have e2 : F_X11_canSpread n (mkM K R S) 8 (nI t) (nI z) (nI h0) = some 1 := E_X11_canSpread_ok hn hL (by
    rw [c_canSpread hC.1 hW, vB_nI (by omega) ht, vB_nI (by omega) hh]
    unfold vS
    rw [vB_nI (by omega) hz]; rfl)
  obtain ⟨K', R', S', e3, l3, d3, j3⟩ := F_aim (n := n) (q := q) (t := t) hn hLy hz0 hC.2.2.2.2.2 hm1 hq hm2 ht
  have g1 : gR 11 13 (mkM K R S) 8 = some 90 := by simp [gR, mkM, kd_8 hL, rd_8_13 hL]
  have hL' := l3.1
  have g2 : gR 11 13 (mkM K' R' S') 8 = some 90 := by simp [gR, mkM, kd_8 hL', rd_8_13 hL']
  have g3 : gR 11 6 (mkM K' R' S') 8 = some tw := by simp [gR, mkM, kd_8 hL', rd_told hL']
  have hC' := hC.ch d3 (j3.I hq ht)
  obtain ⟨⟨v, S1⟩, e4, e5, d1, j1⟩ := c_least (V := V) (tw := tw) hW hn hq (by omega) (24 - h0) 26 S' z (by omega) (by omega) hz hC'.1 j3
  dsimp only at e5 d1 j1
  subst e5
  rw [show 24 - (24 - h0) = h0 by omega] at e4
  have e6 := F_leastWay_of (kd_90 hL') (Nat.le_of_ble_eq_true rfl) (E_X0_least_ok hn hL' l3.hE (layT hL') e4)
  refine ⟨K', R', S1, ?_, l3, d3.trans (Xc_XAm d1), j1⟩
  have wf := chOpt_wf (V := V) (q := q) (t := t) hW (24 - h0) z (by omega)
  generalize chOpt W V q t (24 - h0) z = c at *
  have hc : c < 2 ^ 31 := by
    rcases wf with y | ⟨w1, w2⟩
    · omega
    · omega
  have q1 : ¬ (nI b < 0) := nI_pos (by omega)
  have q2 : nI b ≤ (1 : Int32) := (nI_leI (b := 1) (by omega) (by decide)).mpr (by omega)
  unfold F_X11_cheap
  simp only [rcv_k (kd_8 hL) (Nat.le_of_ble_eq_true rfl), e1, e2, g1, Option.bind_some, rcv_k (kd_90 hL) (Nat.le_of_ble_eq_true rfl), e3, g2, g3, rcv_k (kd_90 hL') (Nat.le_of_ble_eq_true rfl), e6]
  rw [if_neg (by decide), if_neg (by decide), if_neg q1, if_pos q2]
  by_cases c0 : c = 500000
  · rw [if_pos c0, if_pos (by rw [c0]; rfl)]
  rw [if_neg c0, if_neg (show ¬ nI c = (500000 : Int32) from fun y => c0 ((nI_eq hc (by decide)).mp y))]
  rw [show (32 : Int32) = nI 32 from rfl, nI_modN hc (by decide), nI_divN hc (by decide)]
  unfold gd
  by_cases b0 : b = 0
  · rw [if_pos b0, if_pos (by rw [b0]; rfl), if_pos (by decide)]
  · rw [if_neg b0, if_neg (show ¬ nI b = (0 : Int32) from fun y => b0 ((nI_eq (b := 0) (by omega) (by decide)).mp y)), if_pos (by decide)]
theorem F_cheapAt_in {q t z h0 a : Nat} (hn : 30000 ≤ n) (hLy : LyP K0 K R tw en) (hz0 : S.2 161 = fun _ => 0) (hC : CI W V tw en P N H S) (hW : WF W) (hq : q < W 0 1) (ht : t < W 0 2) (hz : z < 2 ^ W 0 1) (hh : h0 < 24) (ha : a < 2 ^ 31) :
    ∃ K' R' S1, F_X11_cheapAt n (mkM K R S) 8 (nI q) (nI t) (nI z) (nI h0) (nI a) = some ((if chOpt W V q t (24 - h0) z = 500000 then none else wStep W V q t a (24 - h0) z 0).elim (-1) nI, mkM K' R' S1) ∧ LyP K0 K' R' tw 161 ∧ Df XAm S S1 ∧ ChJ W V q t S1 := by
  have hm1 : W 0 1 ≤ 10 := hW.mx (k := 1) (by decide)
  have hm2 : W 0 2 ≤ 6 := hW.mx (k := 2) (by decide)
  have hpow : 2 ^ W 0 1 ≤ 2 ^ 10 := Nat.pow_le_pow_right (by decide) hm1
  have hL := hLy.1
  have e1 : F_X11_isOne n (mkM K R S) 8 (1 : Int32) (nI q) = some 1 := E_X11_isOne_ok hn hL (by rw [c_v1 hC.1 hW, vB_nI (by omega) hq]; rfl)
  have e2 : F_X11_canSpread n (mkM K R S) 8 (nI t) (nI z) (nI h0) = some 1 := E_X11_canSpread_ok hn hL (by
    rw [c_canSpread hC.1 hW, vB_nI (by omega) ht, vB_nI (by omega) hh]
    unfold vS
    rw [vB_nI (by omega) hz]; rfl)
  obtain ⟨K', R', S', e3, l3, d3, j3⟩ := F_aim (n := n) (q := q) (t := t) hn hLy hz0 hC.2.2.2.2.2 hm1 hq hm2 ht
  have g1 : gR 11 13 (mkM K R S) 8 = some 90 := by simp [gR, mkM, kd_8 hL, rd_8_13 hL]
  have hL' := l3.1
  have g2 : gR 11 13 (mkM K' R' S') 8 = some 90 := by simp [gR, mkM, kd_8 hL', rd_8_13 hL']
  have g3 : gR 11 6 (mkM K' R' S') 8 = some tw := by simp [gR, mkM, kd_8 hL', rd_told hL']
  have hC' := hC.ch d3 (j3.I hq ht)
  obtain ⟨⟨v, S1⟩, e4, e5, d1, j1⟩ := c_step (V := V) (tw := tw) (a := a) hC'.1 hW hn hq (by omega) hz hh ha j3
  dsimp only at e5 d1 j1
  subst e5
  have e6 := E_X0_step_ok hn hL' l3.hE (layT hL') e4
  refine ⟨K', R', S1, ?_, l3, d3.trans (Xc_XAm d1), j1⟩
  have q1 : (0 : Int32) ≤ nI a := nI_pos' ha
  unfold F_X11_cheapAt
  simp only [rcv_k (kd_8 hL) (Nat.le_of_ble_eq_true rfl), e1, e2, g1, Option.bind_some, rcv_k (kd_90 hL) (Nat.le_of_ble_eq_true rfl), e3, g2, g3, rcv_k (kd_90 hL') (Nat.le_of_ble_eq_true rfl), e6]
  rw [if_neg (by decide), if_neg (by decide), if_pos q1]
/-- the checks that fail, and then all -/
theorem q_cheap (hI : IV W V tw en sd P N H S) (hn : 30000 ≤ n) (hLy : LyP K0 K R tw en) (hz0 : S.2 161 = fun _ => 0) (x y z u v : Int32) : ∃ K' R' en' w S1 S2, F_X11_cheap n (mkM K R S) 8 x y z u v = some (w, mkM K' R' S1) ∧ E_X12_cheap n S1 x y z u v = some (w, S2) ∧ LyP K0 K' R' tw en' ∧ IV W V tw en' sd P N H S2 ∧ Df XQA S S2 := by
  obtain ⟨hW, hPW, hHW, hC, hR⟩ := hI
  have hm1 : W 0 1 ≤ 10 := hW.mx (k := 1) (by decide)
  have hm2 : W 0 2 ≤ 6 := hW.mx (k := 2) (by decide)
  have hpow : 2 ^ W 0 1 ≤ 2 ^ 10 := Nat.pow_le_pow_right (by decide) hm1
  have hL := hLy.1
  have bad : ∀ {w}, F_X11_cheap n (mkM K R S) 8 x y z u v = some (w, mkM K R S) → E_X12_cheap n S x y z u v = some (w, S) → ∃ K' R' en' w S1 S2, F_X11_cheap n (mkM K R S) 8 x y z u v = some (w, mkM K' R' S1) ∧ E_X12_cheap n S1 x y z u v = some (w, S2) ∧ LyP K0 K' R' tw en' ∧ IV W V tw en' sd P N H S2 ∧ Df XQA S S2 := fun e1 e2 => ⟨K, R, en, _, S, S, e1, e2, hLy, ⟨hW, hPW, hHW, hC, hR⟩, Df.refl _ _⟩
  have e1 : F_X11_isOne n (mkM K R S) 8 (1 : Int32) x = some (bI (vB x (W 0 1))) := E_X11_isOne_ok hn hL (c_v1 hC.1 hW)
  have e2 : F_X11_canSpread n (mkM K R S) 8 y z u = some (bI (vB y (W 0 2) && (vS z (W 0 1) && vB u 24))) := E_X11_canSpread_ok hn hL (c_canSpread hC.1 hW)
  have e3 := r_vCheap (n := n) (x := x) (y := y) (z := z) (u := u) hR.1 hW
  have e4 : E_X12_in n S v (0 : Int32) (1 : Int32) = some (bI (vB v 2)) := r_inK (m := 1) (by decide)
  cases c1 : vB x (W 0 1)
  · rw [c1] at e1 e3
    refine bad (w := -1) ?_ ?_
    · unfold F_X11_cheap
      rw [rcv_k (kd_8 hL) (Nat.le_of_ble_eq_true rfl), e1]; rfl
    · unfold E_X12_cheap
      rw [e3]; rfl
  cases c2 : (vB y (W 0 2) && (vS z (W 0 1) && vB u 24))
  · rw [c1] at e1
    rw [c2] at e2
    rw [c1, c2] at e3
    refine bad (w := -1) ?_ ?_
    · unfold F_X11_cheap
      rw [rcv_k (kd_8 hL) (Nat.le_of_ble_eq_true rfl), e1, Option.bind_some, if_neg (by decide), rcv_k (kd_8 hL) (Nat.le_of_ble_eq_true rfl), e2]; rfl
    · unfold E_X12_cheap
      rw [e3]; rfl
  cases c3 : vB v 2
  · rw [c1] at e1
    rw [c2] at e2
    rw [c1, c2] at e3
    rw [c3] at e4
    refine bad (w := -1) ?_ ?_
    · unfold F_X11_cheap
      rw [rcv_k (kd_8 hL) (Nat.le_of_ble_eq_true rfl), e1, Option.bind_some, if_neg (by decide), rcv_k (kd_8 hL) (Nat.le_of_ble_eq_true rfl), e2, Option.bind_some, if_neg (by decide)]
      by_cases g : v < 0
      · rw [if_pos g]
      · rw [if_neg g]
        obtain ⟨j, hj, rfl⟩ := nI_of g
        rw [if_neg]
        intro g2
        have : j ≤ 1 := (nI_leI (b := 1) hj (by decide)).mp g2
        rw [vB_nI (by decide) (by omega)] at c3
        cases c3
    · unfold E_X12_cheap
      rw [e3, Option.bind_some, if_neg (by decide), e4]; rfl
  simp only [Bool.and_eq_true] at c2
  obtain ⟨q, hq, rfl⟩ := vB_t (by omega) c1
  obtain ⟨t, ht, rfl⟩ := vB_t (by omega) c2.1
  obtain ⟨X, hX, rfl, _⟩ := vS_t hm1 c2.2.1
  obtain ⟨h0, hh, rfl⟩ := vB_t (by decide) c2.2.2
  obtain ⟨b, hb, rfl⟩ := vB_t (by decide) c3
  obtain ⟨K', R', S1, f1, l1, d1, j1⟩ := F_cheap_in (b := b) hn hLy hz0 hC hW hq ht hX hh hb
  have hR' := hR.dfC (XAm_XCl d1)
  have hC' := hC.ch d1 (j1.I hq ht)
  have e5 : E_X12_isCheap n S1 (nI q) (nI t) (nI X) (nI h0) = some 1 := by rw [r_vCheap hR'.1 hW, c1, c2.1, c2.2.1, c2.2.2]; rfl
  have e6 : E_X12_in n S1 (nI b) (0 : Int32) (1 : Int32) = some 1 := by
    have : E_X12_in n S1 (nI b) (0 : Int32) (1 : Int32) = some (bI (vB (nI b) 2)) := r_inK (m := 1) (by decide)
    rw [this, c3]; rfl
  obtain ⟨⟨w, S2⟩, f2, f3, d2, z2⟩ := r_cheap (V := V) (n := n) hR'.1 hR'.2.1 hW hn hq (by omega) hX hh hb e5 e6
  dsimp only at f3 d2 z2
  subst f3
  exact ⟨K', R', 161, _, S1, S2, f1, f2, l1, ⟨hW, hPW, hHW, hC'.dfR (XSR_XRf (XCh_XSR d2)), hR'.dfS (XCh_XSR d2) z2 (by rw [XCh_73 d2]; exact hR'.2.2.2.2.2)⟩, (XAm_XQA d1).trans (XSR_XQA (XCh_XSR d2))⟩
theorem q_cheapAt (hI : IV W V tw en sd P N H S) (hn : 30000 ≤ n) (hLy : LyP K0 K R tw en) (hz0 : S.2 161 = fun _ => 0) (x y z u v : Int32) : ∃ K' R' en' w S1 S2, F_X11_cheapAt n (mkM K R S) 8 x y z u v = some (w, mkM K' R' S1) ∧ E_X12_cheapAt n S1 x y z u v = some (w, S2) ∧ LyP K0 K' R' tw en' ∧ IV W V tw en' sd P N H S2 ∧ Df XQA S S2 := by
  obtain ⟨hW, hPW, hHW, hC, hR⟩ := hI
  have hm1 : W 0 1 ≤ 10 := hW.mx (k := 1) (by decide)
  have hm2 : W 0 2 ≤ 6 := hW.mx (k := 2) (by decide)
  have hpow : 2 ^ W 0 1 ≤ 2 ^ 10 := Nat.pow_le_pow_right (by decide) hm1
  have hL := hLy.1
  have bad : ∀ {w}, F_X11_cheapAt n (mkM K R S) 8 x y z u v = some (w, mkM K R S) → E_X12_cheapAt n S x y z u v = some (w, S) → ∃ K' R' en' w S1 S2, F_X11_cheapAt n (mkM K R S) 8 x y z u v = some (w, mkM K' R' S1) ∧ E_X12_cheapAt n S1 x y z u v = some (w, S2) ∧ LyP K0 K' R' tw en' ∧ IV W V tw en' sd P N H S2 ∧ Df XQA S S2 := fun e1 e2 => ⟨K, R, en, _, S, S, e1, e2, hLy, ⟨hW, hPW, hHW, hC, hR⟩, Df.refl _ _⟩
  have e1 : F_X11_isOne n (mkM K R S) 8 (1 : Int32) x = some (bI (vB x (W 0 1))) := E_X11_isOne_ok hn hL (c_v1 hC.1 hW)
  have e2 : F_X11_canSpread n (mkM K R S) 8 y z u = some (bI (vB y (W 0 2) && (vS z (W 0 1) && vB u 24))) := E_X11_canSpread_ok hn hL (c_canSpread hC.1 hW)
  have e3 := r_vCheap (n := n) (x := x) (y := y) (z := z) (u := u) hR.1 hW
  cases c1 : vB x (W 0 1)
  · rw [c1] at e1 e3
    refine bad (w := -1) ?_ ?_
    · unfold F_X11_cheapAt
      rw [rcv_k (kd_8 hL) (Nat.le_of_ble_eq_true rfl), e1]; rfl
    · unfold E_X12_cheapAt
      rw [e3]; rfl
  cases c2 : (vB y (W 0 2) && (vS z (W 0 1) && vB u 24))
  · rw [c1] at e1
    rw [c2] at e2
    rw [c1, c2] at e3
    refine bad (w := -1) ?_ ?_
    · unfold F_X11_cheapAt
      rw [rcv_k (kd_8 hL) (Nat.le_of_ble_eq_true rfl), e1, Option.bind_some, if_neg (by decide), rcv_k (kd_8 hL) (Nat.le_of_ble_eq_true rfl), e2]; rfl
    · unfold E_X12_cheapAt
      rw [e3]; rfl
  by_cases c3 : 0 ≤ v
  case neg =>
    rw [c1] at e1
    rw [c2] at e2
    rw [c1, c2] at e3
    refine bad (w := -1) ?_ ?_
    · unfold F_X11_cheapAt
      rw [rcv_k (kd_8 hL) (Nat.le_of_ble_eq_true rfl), e1, Option.bind_some, if_neg (by decide), rcv_k (kd_8 hL) (Nat.le_of_ble_eq_true rfl), e2, Option.bind_some, if_neg (by decide), if_neg c3]
    · unfold E_X12_cheapAt
      rw [e3, Option.bind_some, if_neg (by decide), if_neg c3]
  simp only [Bool.and_eq_true] at c2
  obtain ⟨q, hq, rfl⟩ := vB_t (by omega) c1
  obtain ⟨t, ht, rfl⟩ := vB_t (by omega) c2.1
  obtain ⟨X, hX, rfl, _⟩ := vS_t hm1 c2.2.1
  obtain ⟨h0, hh, rfl⟩ := vB_t (by decide) c2.2.2
  obtain ⟨a, ha, rfl⟩ := nI_of (Int32.not_lt.mpr c3)
  obtain ⟨K', R', S1, f1, l1, d1, j1⟩ := F_cheapAt_in (a := a) hn hLy hz0 hC hW hq ht hX hh ha
  have hR' := hR.dfC (XAm_XCl d1)
  have hC' := hC.ch d1 (j1.I hq ht)
  have e5 : E_X12_isCheap n S1 (nI q) (nI t) (nI X) (nI h0) = some 1 := by rw [r_vCheap hR'.1 hW, c1, c2.1, c2.2.1, c2.2.2]; rfl
  obtain ⟨⟨w, S2⟩, f2, f3, d2, z2⟩ := r_cheapAt (V := V) (n := n) hR'.1 hR'.2.1 hW hn hq (by omega) hX hh ha e5
  dsimp only at f3 d2 z2
  subst f3
  exact ⟨K', R', 161, _, S1, S2, f1, f2, l1, ⟨hW, hPW, hHW, hC'.dfR (XSR_XRf (XCh_XSR d2)), hR'.dfS (XCh_XSR d2) z2 (by rw [XCh_73 d2]; exact hR'.2.2.2.2.2)⟩, (XAm_XQA d1).trans (XSR_XQA (XCh_XSR d2))⟩
end QCH
