/-! ===== the reference is told: thin walls ===== -/
section RTI
variable {n L sd k m : Nat} {c : Nat → Nat} {S S' : ST}
theorem r_tell3 {Y : SY} {M : SM} (hn : 30000 ≤ n) (hLb : L ≤ 2000) (hT : RTk c L S) (hsd : sd < 2) (h : RRt c L sd Y M S) (h0 : Y.1.1 = 0) (hk : tkK c L Y.1.2 = 3) :
    Ok ((E_X12_next n S (3 : Int32)).bind fun v31 => (E_X12_known n v31.2 (0 : Int32)).bind fun v32 => (E_X12_known n v32.2 (0 : Int32)).bind fun v33 => jn (fun (S34 : ST) => (E_X12_comes n S34 (3 : Int32)).bind fun S36 => if (S36.1 95 13) = 0 then (wr S36 111 16 (((8 : Int32) * (S36.1 95 19)) + v31.1) v32.1).bind fun S38 => (wr S38 112 16 (((8 : Int32) * (S38.1 95 19)) + v31.1) v33.1).bind fun S39 => some S39 else some S36) fun j40 => if (v33.2.1 95 13) = 0 then if v32.1 = (-1 : Int32) then j40 v33.2 else if v32.1 = v33.1 then (E_X12_wrong n v33.2 (5 : Int32) (v32.2.1 95 11)).bind fun S45 => j40 S45 else j40 v33.2 else j40 v33.2) (fun S' => D2 (XTs sd 3 (Y.2.1 3) (nmN Y.2.1)) YNo S S' ∧ RRt c L sd (syT (tkK c L) (tkV c L) Y) (seT (tkK c L) (tkV c L) Y.2.1 Y.1.2 M) S') := by
  obtain ⟨⟨w1, S1⟩, f1, d1, b1, g1, wr1, sb1⟩ := r_beg (n := n) (k := 3) h h0 hT hk (by decide) hsd
  dsimp only at d1 b1 g1 wr1 sb1
  apply Ok.step (show E_X12_next n S (3 : Int32) = some (w1, S1) from f1)
  have hT1 := hT.fl d1
  obtain ⟨⟨w2, S2⟩, f2, d2, b2, g2⟩ := r_old (n := n) (k := 0) (sf := M.2.2) hn (by decide) hLb hT1 b1 (fun z => z) (fun _ => wr1) (fun _ => sb1)
  dsimp only at d2 b2 g2
  apply Ok.step (show E_X12_known n S1 (0 : Int32) = some (w2, S2) from f2)
  have hT2 := hT1.sm d2
  obtain ⟨⟨w3, S3⟩, f3, d3, b3, g3⟩ := r_old (n := n) (k := 0) (sf := orF M.2.2 (cOld (tkV c L) M.1 0 (begY (tkK c L) 3 (Y.2.1 3) Y.1).2)) hn (by decide) hLb hT2 b2 (fun z => (orF_none z).1) (fun z => (g2 z).1) (fun z => (g2 z).2.1)
  dsimp only at d3 b3 g3
  apply Ok.step (show E_X12_known n S2 (0 : Int32) = some (w3, S3) from f3)
  have hT3 := hT2.sm d3
  have hwY := h.2.1
  have etY : tY (tkK c L) (tkV c L) 3 (Y.2.1 3) Y.1 = tk (tkK c L) 22 (tk (tkK c L) 20 (tk (tkK c L) 20 (begY (tkK c L) 3 (Y.2.1 3) Y.1))) := rfl
  have eF : semF (tkK c L) (tkV c L) M.1 3 Y.1.2 = orF (cOld (tkV c L) M.1 0 (Y.1.2 + 1)) (orF (cOld (tkV c L) M.1 0 (Y.1.2 + 2)) (if oldN (tkV c L) M.1 0 (Y.1.2 + 1) = oldN (tkV c L) M.1 0 (Y.1.2 + 2) then some (5, Y.1.2 + 2) else none)) := rfl
  -- all but the end, from where both names are read
  have tail : ∀ S4, Df XSm S3 S4 → Beg c L sd Y.2.1 M (tk (tkK c L) 20 (tk (tkK c L) 20 (begY (tkK c L) 3 (Y.2.1 3) Y.1))) S4 → ((tk (tkK c L) 20 (tk (tkK c L) 20 (begY (tkK c L) 3 (Y.2.1 3) Y.1))).1 = 0 → WR c L (orF M.2.2 (semF (tkK c L) (tkV c L) M.1 3 Y.1.2)) S4) →
      Ok ((E_X12_comes n S4 (3 : Int32)).bind fun S36 => if (S36.1 95 13) = 0 then (wr S36 111 16 (((8 : Int32) * (S36.1 95 19)) + w1) w2).bind fun S38 => (wr S38 112 16 (((8 : Int32) * (S38.1 95 19)) + w1) w3).bind fun S39 => some S39 else some S36) (fun S' => D2 (XTs sd 3 (Y.2.1 3) (nmN Y.2.1)) YNo S S' ∧ RRt c L sd (syT (tkK c L) (tkV c L) Y) (seT (tkK c L) (tkV c L) Y.2.1 Y.1.2 M) S') := fun S4 d4 b4 gw4 => by
    have hT4 := hT3.sm d4
    obtain ⟨S5, f5, d5, hT5, y5, hw5, e19, e20, c5, e5, i5⟩ := r_end (n := n) (k := 3) (by decide) hsd hT4 b4
    apply Ok.step (show E_X12_comes n S4 (3 : Int32) = some S5 from f5)
    rw [← etY] at y5 hw5 c5 i5
    have dA : D2 (XTs sd 3 (Y.2.1 3) (nmN Y.2.1)) YNo S S5 := ((((D2.fl d1).trans (D2.sm d2)).trans (D2.sm d3)).trans (D2.sm d4)).trans (D2.co d5)
    by_cases z : (tY (tkK c L) (tkV c L) 3 (Y.2.1 3) Y.1).1 = 0
    case neg => exact Ok.ifF (fun q => z (i5.mp q)) (Ok.ret ⟨dA, h.fin h0 hk (by decide) hsd dA y5 (fun q => absurd q z)⟩)
    refine Ok.ifT (i5.mpr z) ?_
    obtain ⟨s1, s2, s3, s4⟩ := beg_0 hwY (by decide) z
    have hp : (tk (tkK c L) 20 (tk (tkK c L) 20 (0, Y.1.2 + 1))).1 = 0 := s3
    obtain ⟨a1, a2, a3, a4⟩ := tk_0 hp
    obtain ⟨c1, c2, c3, c6⟩ := tk_0 a1
    have c6' : tk (tkK c L) 20 (0, Y.1.2 + 1) = (0, Y.1.2 + 2) := c6
    rw [c6'] at a4
    have a4' : tk (tkK c L) 20 (0, Y.1.2 + 2) = (0, Y.1.2 + 3) := a4
    rw [s2, c6'] at g2
    rw [s2, c6', a4'] at g3 gw4
    obtain ⟨gw3, gs3, gv3⟩ := g3 rfl
    obtain ⟨gw2, gs2, gv2⟩ := g2 rfl
    have gw := gw4 rfl
    dsimp only at gw3 gs3 gv3 gw2 gs2 gv2
    have hm5 : Y.2.1 3 ≤ 8 := (h.2.2.2 h0).1 3 (by decide)
    have hm5' : Y.2.1 3 ≠ 8 := s1
    have e1 := g1 s1
    subst e1
    rw [show (8 : Int32) = nI 8 from rfl, row_ix e19]
    apply Ok.step (wr_nI (by omega) (by decide))
    have e19' : (upI S5 111 (8 * sd + Y.2.1 3) w2).1 95 19 = nI sd := by rw [upI_at, if_neg (by omega)]; exact e19
    rw [row_ix e19']
    apply Ok.step (wr_nI (by omega) (by decide))
    generalize eS6 : upI (upI S5 111 (8 * sd + Y.2.1 3) w2) 112 (8 * sd + Y.2.1 3) w3 = S6
    have x1 : XTs sd 3 (Y.2.1 3) (nmN Y.2.1) 111 (8 * sd + Y.2.1 3) = true := xts_row (a := 111) (by decide) (by decide) rfl rfl (by omega)
    have x2 : XTs sd 3 (Y.2.1 3) (nmN Y.2.1) 112 (8 * sd + Y.2.1 3) = true := xts_row (a := 112) (by decide) (by decide) rfl rfl (by omega)
    have dB : D2 (XTs sd 3 (Y.2.1 3) (nmN Y.2.1)) YNo S S6 := by rw [← eS6]; exact (dA.up x1).up x2
    have o5 : ∀ a j, a ≠ 111 → a ≠ 112 → S6.1 a j = S5.1 a j := fun a j h1 h2 => by rw [← eS6, upI_at, if_neg (by omega), upI_at, if_neg (by omega)]
    refine Ok.ret ⟨dB, h.fin h0 hk (by decide) hsd dB (y5.fr (fun j hj => o5 _ _ (by omega) (by omega))) (fun _ => ⟨?_, fun hn => (by cases hn), fun _ => ?_, ?_, ?_, fun hM hF q hq hq5 => ?_⟩)⟩
    · rw [o5 _ _ (by omega) (by omega)]; exact c5 z
    · rw [← eS6]
      show S5.2 103 = S.2 103
      rw [d5.1, d4.1, d3.1, d2.1, d1.1]
    · exact gw.fr (fun j hj => by rw [o5 _ _ (by omega) (by omega)]; exact e5 j hj)
    · rw [eF, ← orF_assoc, ← orF_assoc]
      have gs : SFb (orF (orF M.2.2 (cOld (tkV c L) M.1 0 (Y.1.2 + 1))) (cOld (tkV c L) M.1 0 (Y.1.2 + 2))) (Y.1.2 + 3) := gs3
      refine SFb.mono (gs.or (Nat.le_refl _) (fun x hx => ?_)) ?_
      · split at hx
        · rw [← Option.some.inj hx]; exact Nat.lt_succ_self _
        · cases hx
      · rw [etY, s2, c6', a4']
        exact tk_le (0, Y.1.2 + 3)
    · rw [eF] at hF
      obtain ⟨hF1, hF2⟩ := orF_none hF
      obtain ⟨hF2, hF3⟩ := orF_none hF2
      obtain ⟨m1, hm1⟩ := cOld_none hF1
      obtain ⟨m2, hm2⟩ := cOld_none hF2
      have v2 := ((gv2 hM).1 m1 hm1).1
      have v3 := ((gv3 (by rw [hM, hF1]; rfl)).1 m2 hm2).1
      have hq2 : ∀ q ∈ TW, q.2.2.2 = 3 → q = (4, 111, 8, 3) ∨ q = (5, 112, 8, 3) := by decide
      rcases hq2 q hq hq5 with e | e
      · subst e
        dsimp only
        rw [← eS6, upI_at, if_neg (by omega), upI_at, if_pos ⟨rfl, rfl⟩, v2]
        show nI m1 = nI (wS (wS M.2.1 4 (Y.2.1 3) (oN (tkV c L) M.1 0 (Y.1.2 + 1))) 5 (Y.2.1 3) (oN (tkV c L) M.1 0 (Y.1.2 + 2)) 4 (Y.2.1 3))
        rw [wS_n (Or.inl (by decide)), wS_s, oN_of hm1]
      · subst e
        dsimp only
        rw [← eS6, upI_at, if_pos ⟨rfl, rfl⟩, v3]
        show nI m2 = nI (wS (wS M.2.1 4 (Y.2.1 3) (oN (tkV c L) M.1 0 (Y.1.2 + 1))) 5 (Y.2.1 3) (oN (tkV c L) M.1 0 (Y.1.2 + 2)) 5 (Y.2.1 3))
        rw [wS_s, oN_of hm2]
  apply Ok.jnU
  have b3' : Beg c L sd Y.2.1 M (tk (tkK c L) 20 (tk (tkK c L) 20 (begY (tkK c L) 3 (Y.2.1 3) Y.1))) S3 := b3
  have hc20 := b3.2.2.2.2.2.2.1 0 (by decide)
  have hw3 := b3.2.1
  by_cases y0 : (tk (tkK c L) 20 (tk (tkK c L) 20 (begY (tkK c L) 3 (Y.2.1 3) Y.1))).1 = 0
  case neg =>
    refine Ok.ifF (fun q => y0 ?_) (tail S3 (Df.refl _ _) b3 (fun q => absurd q y0))
    rw [b3.1.1] at q
    have := hw3.1
    exact (nI_eq (b := 0) (by omega) (by decide)).mp q
  refine Ok.ifT (by rw [b3.1.1, y0]; rfl) ?_
  -- where it is
  obtain ⟨a1, a2, a3, a4⟩ := tk_0 y0
  obtain ⟨c1, c2, c3, c6⟩ := tk_0 a1
  have hbeg : begY (tkK c L) 3 (Y.2.1 3) Y.1 = (0, Y.1.2 + 1) := by
    unfold begY at c1 ⊢
    split at c1
    · cases c1
    · rename_i hne
      rw [if_neg hne]
      exact (tk_0 c1).2.2.2
  rw [hbeg] at a1 a2 a3 a4 c1 c2 c3 c6 y0 tail g2 g3 b2 b3 hw3
  have c6' : tk (tkK c L) 20 (0, Y.1.2 + 1) = (0, Y.1.2 + 2) := c6
  rw [c6'] at a1 a2 a3 a4 y0 tail g2 g3 b2 b3 hw3
  have a4' : tk (tkK c L) 20 (0, Y.1.2 + 2) = (0, Y.1.2 + 3) := a4
  rw [a4'] at y0 tail g3 b3 hw3
  obtain ⟨gw3, gs3, gv3⟩ := g3 rfl
  obtain ⟨gw2, gs2, gv2⟩ := g2 rfl
  dsimp only at gw3 gs3 gv3 gw2 gs2 gv2 a2
  have e11 : S2.1 95 11 = nI (Y.1.2 + 2) := b2.1.2.1 rfl
  have hv : ∀ i, i < Y.1.2 + 2 → tkK c L i ≠ 35 := b2.2.1.2.2
  have h400 : Y.1.2 + 2 ≤ 400 := b2.2.1.2.1
  -- the third check, as said
  have same : M.2.2 = none → ∀ m1 m2, oldN (tkV c L) M.1 0 (Y.1.2 + 1) = some m1 → oldN (tkV c L) M.1 0 (Y.1.2 + 2) = some m2 → (w2 = w3 ↔ m1 = m2) ∧ w2 ≠ -1 := fun hM m1 m2 h1 h2 => by
    obtain ⟨v1, l1⟩ := (gv2 hM).1 m1 h1
    have hn2 : orF M.2.2 (cOld (tkV c L) M.1 0 (Y.1.2 + 1)) = none := by
      rw [hM]; unfold cOld; rw [h1]; rfl
    obtain ⟨v2, l2⟩ := (gv3 hn2).1 m2 h2
    rw [v1, v2]
    exact ⟨nI_eq (by omega) (by omega), nI_m1 (by omega)⟩
  have stay : (M.2.2 = none → ∀ m1 m2, oldN (tkV c L) M.1 0 (Y.1.2 + 1) = some m1 → oldN (tkV c L) M.1 0 (Y.1.2 + 2) = some m2 → m1 ≠ m2) → WR c L (orF M.2.2 (semF (tkK c L) (tkV c L) M.1 3 Y.1.2)) S3 := fun hne => by
    have : orF M.2.2 (semF (tkK c L) (tkV c L) M.1 3 Y.1.2) = orF (orF M.2.2 (cOld (tkV c L) M.1 0 (Y.1.2 + 1))) (cOld (tkV c L) M.1 0 (Y.1.2 + 2)) := by
      rw [eF, orF_assoc]
      cases hM : M.2.2 with
      | some x => rfl
      | none =>
        rw [orF_n, orF_n]
        cases h1 : oldN (tkV c L) M.1 0 (Y.1.2 + 1) with
        | none =>
          have : cOld (tkV c L) M.1 0 (Y.1.2 + 1) = some (4, Y.1.2 + 1) := by unfold cOld; rw [h1]; rfl
          rw [this]; rfl
        | some m1 =>
          cases h2 : oldN (tkV c L) M.1 0 (Y.1.2 + 2) with
          | none =>
            have : cOld (tkV c L) M.1 0 (Y.1.2 + 2) = some (4, Y.1.2 + 2) := by unfold cOld; rw [h2]; rfl
            rw [this]; rfl
          | some m2 =>
            rw [if_neg (fun z => hne hM m1 m2 h1 h2 (Option.some.inj z)), orF_r]
    rw [this]
    exact gw3
  by_cases cm1 : w2 = -1
  · refine Ok.ifT cm1 (tail S3 (Df.refl _ _) b3 (fun _ => stay (fun hM m1 m2 h1 h2 => absurd cm1 (same hM m1 m2 h1 h2).2)))
  refine Ok.ifF cm1 ?_
  by_cases ceq : w2 = w3
  case neg =>
    refine Ok.ifF ceq (tail S3 (Df.refl _ _) b3 (fun _ => stay (fun hM m1 m2 h1 h2 e => ceq ((same hM m1 m2 h1 h2).1.mpr e))))
  refine Ok.ifT ceq ?_
  rw [e11]
  obtain ⟨S4, f4, d4, w4⟩ := r_wrong (n := n) (f := 5) (j := Y.1.2 + 2) hT3 b3.1 (Nat.zero_le 2) h400 hv (by decide) (by decide) gw3 (fun x hx => by
    cases hM : M.2.2 with
    | some x' =>
      rw [hM] at hx
      have : x' = x := Option.some.inj hx
      rw [← this]
      have := sb1 x' hM
      rw [hbeg] at this
      exact Or.inl (Nat.lt_succ_of_lt this)
    | none =>
      rw [hM] at hx
      cases h1 : oldN (tkV c L) M.1 0 (Y.1.2 + 1) with
      | none => exact absurd ((gv2 hM).2 h1) cm1
      | some m1 =>
        have hc1 : cOld (tkV c L) M.1 0 (Y.1.2 + 1) = none := by unfold cOld; rw [h1]; rfl
        rw [hc1] at hx
        cases h2 : oldN (tkV c L) M.1 0 (Y.1.2 + 2) with
        | none =>
          have := (gv3 (by rw [hM, hc1]; rfl)).2 h2
          exact absurd (ceq.trans this) cm1
        | some m2 =>
          have hc2 : cOld (tkV c L) M.1 0 (Y.1.2 + 2) = none := by unfold cOld; rw [h2]; rfl
          rw [hc2] at hx
          cases hx) hLb
  apply Ok.step (show E_X12_wrong n S3 (5 : Int32) (nI (Y.1.2 + 2)) = some S4 from f4)
  refine tail S4 (XWr_Sm d4) (b3.sm (XWr_Sm d4) (b3.1.fr (fun j hj => d4.2 _ _ (by simp only [XWr, Bool.and_eq_false_iff, Bool.or_eq_false_iff, beq_eq_false_iff_ne]; omega))) hw3) (fun _ => ?_)
  have : orF M.2.2 (semF (tkK c L) (tkV c L) M.1 3 Y.1.2) = orF (orF (orF M.2.2 (cOld (tkV c L) M.1 0 (Y.1.2 + 1))) (cOld (tkV c L) M.1 0 (Y.1.2 + 2))) (some (5, Y.1.2 + 2)) := by
    rw [eF, orF_assoc, orF_assoc]
    cases hM : M.2.2 with
    | some x => rfl
    | none =>
      cases h1 : oldN (tkV c L) M.1 0 (Y.1.2 + 1) with
      | none => exact absurd ((gv2 hM).2 h1) cm1
      | some m1 =>
        have hc1 : cOld (tkV c L) M.1 0 (Y.1.2 + 1) = none := by unfold cOld; rw [h1]; rfl
        cases h2 : oldN (tkV c L) M.1 0 (Y.1.2 + 2) with
        | none =>
          have := (gv3 (by rw [hM, hc1]; rfl)).2 h2
          exact absurd (ceq.trans this) cm1
        | some m2 =>
          have := (same hM m1 m2 h1 h2).1.mp ceq
          rw [if_pos (by rw [this])]
  rw [this]
  exact w4 rfl
end RTI
