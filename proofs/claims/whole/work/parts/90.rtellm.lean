/-! ===== the reference is told: musts, thin walls ===== -/
section RTH
variable {n L sd k m : Nat} {c : Nat → Nat} {S S' : ST}
/-- what must be known -/
theorem r_tell6 {Y : SY} {M : SM} (hn : 30000 ≤ n) (hLb : L ≤ 2000) (hT : RTk c L S) (hsd : sd < 2) (h : RRt c L sd Y M S) (h0 : Y.1.1 = 0) (hk : tkK c L Y.1.2 = 6) :
    Ok ((E_X12_next n S (6 : Int32)).bind fun v59 => (E_X12_known n v59.2 (1 : Int32)).bind fun v60 => (E_X12_known n v60.2 (2 : Int32)).bind fun v61 => (E_X12_bounded n v61.2 (0 : Int32) (23 : Int32)).bind fun v62 => (E_X12_comes n v62.2 (6 : Int32)).bind fun S64 => if (S64.1 95 13) = 0 then (wr S64 119 24 (((12 : Int32) * (S64.1 95 19)) + v59.1) v60.1).bind fun S66 => (wr S66 120 24 (((12 : Int32) * (S66.1 95 19)) + v59.1) v61.1).bind fun S67 => (wr S67 121 24 (((12 : Int32) * (S67.1 95 19)) + v59.1) v62.1).bind fun S68 => some S68 else some S64) (fun S' => D2 (XTs sd 6 (Y.2.1 6) (nmN Y.2.1)) YNo S S' ∧ RRt c L sd (syT (tkK c L) (tkV c L) Y) (seT (tkK c L) (tkV c L) Y.2.1 Y.1.2 M) S') := by
  obtain ⟨⟨w1, S1⟩, f1, d1, b1, g1, wr1, sb1⟩ := r_beg (n := n) (k := 6) h h0 hT hk (by decide) hsd
  dsimp only at d1 b1 g1 wr1 sb1
  apply Ok.step (show E_X12_next n S (6 : Int32) = some (w1, S1) from f1)
  have hT1 := hT.fl d1
  obtain ⟨⟨w2, S2⟩, f2, d2, b2, g2⟩ := r_old (n := n) (k := 1) (sf := M.2.2) hn (by decide) hLb hT1 b1 (fun z => z) (fun _ => wr1) (fun _ => sb1)
  dsimp only at d2 b2 g2
  apply Ok.step (show E_X12_known n S1 (1 : Int32) = some (w2, S2) from f2)
  have hT2 := hT1.sm d2
  obtain ⟨⟨w3, S3⟩, f3, d3, b3, g3⟩ := r_old (n := n) (k := 2) (sf := orF M.2.2 (cOld (tkV c L) M.1 1 (begY (tkK c L) 6 (Y.2.1 6) Y.1).2)) hn (by decide) hLb hT2 b2 (fun z => (orF_none z).1) (fun z => (g2 z).1) (fun z => (g2 z).2.1)
  dsimp only at d3 b3 g3
  apply Ok.step (show E_X12_known n S2 (2 : Int32) = some (w3, S3) from f3)
  have hT3 := hT2.sm d3
  obtain ⟨⟨w4, S4⟩, f4, d4, b4, g4, _⟩ := r_num (n := n) (lo := 0) (hi := 23) hLb (by decide) (by decide) hT3 b3 (fun z => (g3 z).1) (fun z => (g3 z).2.1)
  dsimp only at d4 b4 g4
  apply Ok.step (show E_X12_bounded n S3 (0 : Int32) (23 : Int32) = some (w4, S4) from f4)
  have hT4 := hT3.sm d4
  obtain ⟨S5, f5, d5, hT5, y5, hw5, e19, e20, c5, e5, i5⟩ := r_end (n := n) (k := 6) (by decide) hsd hT4 b4
  apply Ok.step (show E_X12_comes n S4 (6 : Int32) = some S5 from f5)
  have etY : tY (tkK c L) (tkV c L) 6 (Y.2.1 6) Y.1 = tk (tkK c L) 22 (tk (tkK c L) 21 (tk (tkK c L) 20 (tk (tkK c L) 20 (begY (tkK c L) 6 (Y.2.1 6) Y.1)))) := rfl
  rw [← etY] at y5 hw5 c5 i5
  have hwY := h.2.1
  have dA : D2 (XTs sd 6 (Y.2.1 6) (nmN Y.2.1)) YNo S S5 := ((((D2.fl d1).trans (D2.sm d2)).trans (D2.sm d3)).trans (D2.sm d4)).trans (D2.co d5)
  by_cases z : (tY (tkK c L) (tkV c L) 6 (Y.2.1 6) Y.1).1 = 0
  case neg => exact Ok.ifF (fun q => z (i5.mp q)) (Ok.ret ⟨dA, h.fin h0 hk (by decide) hsd dA y5 (fun q => absurd q z)⟩)
  refine Ok.ifT (i5.mpr z) ?_
  obtain ⟨s1, s2, s3, s4⟩ := beg_0 hwY (by decide) z
  have hp : (tk (tkK c L) 21 (tk (tkK c L) 20 (tk (tkK c L) 20 (0, Y.1.2 + 1)))).1 = 0 := s3
  obtain ⟨p1, p2, p3, p4⟩ := tk_0 hp
  obtain ⟨a1, a2, a3, a4⟩ := tk_0 p1
  obtain ⟨c1, c2, c3, c6⟩ := tk_0 a1
  have c6' : tk (tkK c L) 20 (0, Y.1.2 + 1) = (0, Y.1.2 + 2) := c6
  rw [c6'] at a4 p4
  have a4' : tk (tkK c L) 20 (0, Y.1.2 + 2) = (0, Y.1.2 + 3) := a4
  rw [a4'] at p4
  have p4' : tk (tkK c L) 21 (0, Y.1.2 + 3) = (0, Y.1.2 + 4) := p4
  rw [s2, c6'] at g2
  rw [s2, c6', a4'] at g3
  rw [s2, c6', a4', p4'] at g4
  obtain ⟨gv4, gw4, gs4⟩ := g4 rfl
  obtain ⟨gw3, gs3, gv3⟩ := g3 rfl
  obtain ⟨gw2, gs2, gv2⟩ := g2 rfl
  dsimp only at gw3 gs3 gv3 gw2 gs2 gv2 gv4 gw4 gs4
  have hm5 : Y.2.1 6 ≤ 12 := (h.2.2.2 h0).1 6 (by decide)
  have hm5' : Y.2.1 6 ≠ 12 := s1
  have e1 := g1 s1
  subst e1
  rw [show (12 : Int32) = nI 12 from rfl, row_ix e19]
  apply Ok.step (wr_nI (by omega) (by decide))
  have e19' : (upI S5 119 (12 * sd + Y.2.1 6) w2).1 95 19 = nI sd := by rw [upI_at, if_neg (by omega)]; exact e19
  rw [row_ix e19']
  apply Ok.step (wr_nI (by omega) (by decide))
  have e19'' : (upI (upI S5 119 (12 * sd + Y.2.1 6) w2) 120 (12 * sd + Y.2.1 6) w3).1 95 19 = nI sd := by rw [upI_at, if_neg (by omega)]; exact e19'
  rw [row_ix e19'']
  apply Ok.step (wr_nI (by omega) (by decide))
  generalize eS6 : upI (upI (upI S5 119 (12 * sd + Y.2.1 6) w2) 120 (12 * sd + Y.2.1 6) w3) 121 (12 * sd + Y.2.1 6) w4 = S6
  have x1 : XTs sd 6 (Y.2.1 6) (nmN Y.2.1) 119 (12 * sd + Y.2.1 6) = true := xts_row (a := 119) (by decide) (by decide) rfl rfl (by omega)
  have x2 : XTs sd 6 (Y.2.1 6) (nmN Y.2.1) 120 (12 * sd + Y.2.1 6) = true := xts_row (a := 120) (by decide) (by decide) rfl rfl (by omega)
  have x3 : XTs sd 6 (Y.2.1 6) (nmN Y.2.1) 121 (12 * sd + Y.2.1 6) = true := xts_row (a := 121) (by decide) (by decide) rfl rfl (by omega)
  have dB : D2 (XTs sd 6 (Y.2.1 6) (nmN Y.2.1)) YNo S S6 := by rw [← eS6]; exact ((dA.up x1).up x2).up x3
  have o5 : ∀ a j, a ≠ 119 → a ≠ 120 → a ≠ 121 → S6.1 a j = S5.1 a j := fun a j h1 h2 h3 => by rw [← eS6, upI_at, if_neg (by omega), upI_at, if_neg (by omega), upI_at, if_neg (by omega)]
  have eF : semF (tkK c L) (tkV c L) M.1 6 Y.1.2 = orF (cOld (tkV c L) M.1 1 (Y.1.2 + 1)) (orF (cOld (tkV c L) M.1 2 (Y.1.2 + 2)) (cIn (tkV c L) 0 23 (Y.1.2 + 3))) := rfl
  refine Ok.ret ⟨dB, h.fin h0 hk (by decide) hsd dB (y5.fr (fun j hj => o5 _ _ (by omega) (by omega) (by omega))) (fun _ => ⟨?_, fun hn => (by cases hn), fun _ => ?_, ?_, ?_, fun hM hF q hq hq5 => ?_⟩)⟩
  · rw [o5 _ _ (by omega) (by omega) (by omega)]; exact c5 z
  · rw [← eS6]
    show S5.2 103 = S.2 103
    rw [d5.1, d4.1, d3.1, d2.1, d1.1]
  · rw [eF, ← orF_assoc, ← orF_assoc]
    exact gw4.fr (fun j hj => by rw [o5 _ _ (by omega) (by omega) (by omega)]; exact e5 j hj)
  · rw [eF, ← orF_assoc, ← orF_assoc]
    refine gs4.mono ?_
    rw [etY, s2, c6', a4', p4']
    exact tk_le (0, Y.1.2 + 4)
  · rw [eF] at hF
    obtain ⟨hF1, hF2⟩ := orF_none hF
    obtain ⟨hF2, hF3⟩ := orF_none hF2
    obtain ⟨m1, hm1⟩ := cOld_none hF1
    obtain ⟨m2, hm2⟩ := cOld_none hF2
    have v2 := ((gv2 hM).1 m1 hm1).1
    have v3 := ((gv3 (by rw [hM, hF1]; rfl)).1 m2 hm2).1
    have hq2 : ∀ q ∈ TW, q.2.2.2 = 6 → q = (12, 119, 12, 6) ∨ q = (13, 120, 12, 6) ∨ q = (14, 121, 12, 6) := by decide
    rcases hq2 q hq hq5 with e | e | e
    · subst e
      dsimp only
      rw [← eS6, upI_at, if_neg (by omega), upI_at, if_neg (by omega), upI_at, if_pos ⟨rfl, rfl⟩, v2]
      show nI m1 = nI (wS (wS (wS M.2.1 12 (Y.2.1 6) (oN (tkV c L) M.1 1 (Y.1.2 + 1))) 13 (Y.2.1 6) (oN (tkV c L) M.1 2 (Y.1.2 + 2))) 14 (Y.2.1 6) (tkV c L (Y.1.2 + 3)) 12 (Y.2.1 6))
      rw [wS_n (Or.inl (by decide)), wS_n (Or.inl (by decide)), wS_s, oN_of hm1]
    · subst e
      dsimp only
      rw [← eS6, upI_at, if_neg (by omega), upI_at, if_pos ⟨rfl, rfl⟩, v3]
      show nI m2 = nI (wS (wS (wS M.2.1 12 (Y.2.1 6) (oN (tkV c L) M.1 1 (Y.1.2 + 1))) 13 (Y.2.1 6) (oN (tkV c L) M.1 2 (Y.1.2 + 2))) 14 (Y.2.1 6) (tkV c L (Y.1.2 + 3)) 13 (Y.2.1 6))
      rw [wS_n (Or.inl (by decide)), wS_s, oN_of hm2]
    · subst e
      dsimp only
      rw [← eS6, upI_at, if_pos ⟨rfl, rfl⟩, gv4]
      show nI _ = nI (wS (wS (wS M.2.1 12 (Y.2.1 6) (oN (tkV c L) M.1 1 (Y.1.2 + 1))) 13 (Y.2.1 6) (oN (tkV c L) M.1 2 (Y.1.2 + 2))) 14 (Y.2.1 6) (tkV c L (Y.1.2 + 3)) 14 (Y.2.1 6))
      rw [wS_s]
end RTH
