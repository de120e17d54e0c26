/-! ===== the reference is told: things, acts ===== -/
section RTK
variable {n L sd k m : Nat} {c : Nat → Nat} {S S' : ST}
theorem r_tell2 {Y : SY} {M : SM} (hn : 30000 ≤ n) (hLb : L ≤ 2000) (hT : RTk c L S) (hsd : sd < 2) (h : RRt c L sd Y M S) (h0 : Y.1.1 = 0) (hk : tkK c L Y.1.2 = 2) :
    Ok ((E_X12_next n S (2 : Int32)).bind fun v21 => (E_X12_named n v21.2 ).bind fun v22 => (E_X12_bounded n v22.2 (0 : Int32) (99 : Int32)).bind fun v23 => (E_X12_comes n v23.2 (2 : Int32)).bind fun S25 => (E_X12_notes n S25 v22.1 (2 : Int32) v21.1).bind fun S27 => if (S27.1 95 13) = 0 then (wr S27 110 12 (((6 : Int32) * (S27.1 95 19)) + v21.1) v23.1).bind fun S29 => some S29 else some S27) (fun S' => D2 (XTs sd 2 (Y.2.1 2) (nmN Y.2.1)) YNo S S' ∧ RRt c L sd (syT (tkK c L) (tkV c L) Y) (seT (tkK c L) (tkV c L) Y.2.1 Y.1.2 M) S') := by
  obtain ⟨⟨w1, S1⟩, f1, d1, b1, g1, wr1, sb1⟩ := r_beg (n := n) (k := 2) h h0 hT hk (by decide) hsd
  dsimp only at d1 b1 g1 wr1 sb1
  apply Ok.step (show E_X12_next n S (2 : Int32) = some (w1, S1) from f1)
  have hT1 := hT.fl d1
  obtain ⟨⟨w2, S2⟩, f2, d2, b2, ⟨t, t1, t2, t3⟩, g2⟩ := r_new (n := n) (sf := M.2.2) hn hLb hT1 b1 (fun z => z) (fun _ => wr1) (fun _ => sb1)
  dsimp only at d2 b2 t2 g2
  subst t2
  apply Ok.step f2
  have hT2 := hT1.sm d2
  obtain ⟨⟨w3, S3⟩, f3, d3, b3, g3, _⟩ := r_num (n := n) (lo := 0) (hi := 99) hLb (by decide) (by decide) hT2 b2 (fun z => (g2 z).1) (fun z => (g2 z).2)
  dsimp only at d3 b3 g3
  apply Ok.step (show E_X12_bounded n S2 (0 : Int32) (99 : Int32) = some (w3, S3) from f3)
  have hT3 := hT2.sm d3
  obtain ⟨S4, f4, d4, hT4, y4, hw4, e19, e20, c4, e4, i4⟩ := r_end (n := n) (k := 2) (by decide) hsd hT3 b3
  apply Ok.step (show E_X12_comes n S3 (2 : Int32) = some S4 from f4)
  have etY : tY (tkK c L) (tkV c L) 2 (Y.2.1 2) Y.1 = tk (tkK c L) 22 (tk (tkK c L) 21 (tk (tkK c L) 20 (begY (tkK c L) 2 (Y.2.1 2) Y.1))) := rfl
  rw [← etY] at y4 hw4 c4 i4
  have hwY := h.2.1
  have hcm := (h.2.2.2 h0).1
  have eF : semF (tkK c L) (tkV c L) M.1 2 Y.1.2 = orF (cNew (tkV c L) M.1 (Y.1.2 + 1)) (cIn (tkV c L) 0 99 (Y.1.2 + 2)) := rfl
  have suc : (tY (tkK c L) (tkV c L) 2 (Y.2.1 2) Y.1).1 = 0 → Y.2.1 2 ≠ cmx 2 ∧ begY (tkK c L) 2 (Y.2.1 2) Y.1 = (0, Y.1.2 + 1) ∧ tkK c L (Y.1.2 + 1) = 20 ∧ (∀ i, i < Y.1.2 + 1 → tkK c L i ≠ 35) ∧ tk (tkK c L) 20 (0, Y.1.2 + 1) = (0, Y.1.2 + 2) ∧ tk (tkK c L) 21 (0, Y.1.2 + 2) = (0, Y.1.2 + 3) := fun z => by
    obtain ⟨s1, s2, s3, s4⟩ := beg_0 hwY (by decide) z
    have hp : (tk (tkK c L) 21 (tk (tkK c L) 20 (0, Y.1.2 + 1))).1 = 0 := s3
    obtain ⟨p1, p2, p3, p4⟩ := tk_0 hp
    obtain ⟨a1, a2, a3, a4⟩ := tk_0 p1
    rw [a4] at p4
    refine ⟨s1, s2, a2, ?_, a4, p4⟩
    have := b1.2.1.2.2
    rw [s2] at this
    exact this
  obtain ⟨S5, f5, d5, n5, n5'⟩ := r_notes (n := n) (j := t) (s := 2) (w := w1) (nn := nmN Y.2.1) hT4 y4 hw4.1 t1 e20 (fun z => by
    obtain ⟨s1, s2, s3, s4, s5, s6⟩ := suc z
    have et := t3 (by rw [s2])
    rw [s2] at et
    subst et
    exact ⟨nmN_lt hcm (k := 2) rfl s1, s4, s3⟩)
  apply Ok.step (show E_X12_notes n S4 (nI t) (2 : Int32) w1 = some S5 from f5)
  have o5 : ∀ a j, a ≠ 104 → a ≠ 105 → (a ≠ 95 ∨ j ≠ 20) → S5.1 a j = S4.1 a j := fun a j h1 h2 h3 => d5.2 _ _ (by simp only [XNo, Bool.or_eq_false_iff, Bool.and_eq_false_iff, beq_eq_false_iff_ne]; omega)
  have dA : D2 (XTs sd 2 (Y.2.1 2) (nmN Y.2.1)) YNo S S5 := ((((D2.fl d1).trans (D2.sm d2)).trans (D2.sm d3)).trans (D2.co d4)).trans (D2.no rfl d5)
  have y5 : RY c L (tY (tkK c L) (tkV c L) 2 (Y.2.1 2) Y.1) S5 := y4.fr (fun j hj => o5 _ _ (by omega) (by omega) (by omega))
  have e13 : S5.1 95 13 = S4.1 95 13 := o5 _ _ (by omega) (by omega) (by omega)
  by_cases z : (tY (tkK c L) (tkV c L) 2 (Y.2.1 2) Y.1).1 = 0
  case neg => exact Ok.ifF (fun q => z (i4.mp (e13 ▸ q))) (Ok.ret ⟨dA, h.fin h0 hk (by decide) hsd dA y5 (fun q => absurd q z)⟩)
  refine Ok.ifT (by rw [e13]; exact i4.mpr z) ?_
  obtain ⟨s1, s2, s3, s4, s5, s6⟩ := suc z
  have et := t3 (by rw [s2])
  rw [s2] at et
  subst et
  obtain ⟨k1, k2, k3, k4, k5⟩ := n5 z
  rw [s2, s5] at g2
  rw [s2, s5, s6] at g3
  obtain ⟨gv3, gw3, gs3⟩ := g3 rfl
  dsimp only at gv3 gw3 gs3
  have hm5 : Y.2.1 2 ≤ 6 := hcm 2 (by decide)
  have hm5' : Y.2.1 2 ≠ 6 := s1
  have e1 := g1 s1
  subst e1
  have e19' : S5.1 95 19 = nI sd := by rw [o5 _ _ (by omega) (by omega) (by omega)]; exact e19
  rw [show (6 : Int32) = nI 6 from rfl, row_ix e19']
  apply Ok.step (wr_nI (by omega) (by decide))
  generalize eS6 : upI S5 110 (6 * sd + Y.2.1 2) w3 = S6
  have x1 : XTs sd 2 (Y.2.1 2) (nmN Y.2.1) 110 (6 * sd + Y.2.1 2) = true := xts_row (a := 110) (by decide) (by decide) rfl rfl (by omega)
  have dB : D2 (XTs sd 2 (Y.2.1 2) (nmN Y.2.1)) YNo S S6 := by rw [← eS6]; exact dA.up x1
  have o6 : ∀ a j, a ≠ 110 → S6.1 a j = S5.1 a j := fun a j h1 => by rw [← eS6, upI_at, if_neg (by omega)]
  have l6 : S6.2 = S5.2 := by rw [← eS6]; rfl
  refine Ok.ret ⟨dB, h.fin h0 hk (by decide) hsd dB (y5.fr (fun j hj => o6 _ _ (by omega))) (fun _ => ⟨?_, fun _ => ⟨?_, ?_, ?_, ?_, fun i hi => ?_⟩, fun hn => (by cases hn), ?_, ?_, fun hM hF q hq hq5 => ?_⟩)⟩
  · rw [o6 _ _ (by omega), o5 _ _ (by omega) (by omega) (by omega)]; exact c4 z
  · rw [o6 _ _ (by omega)]; exact k1
  · rw [l6]; exact k2
  · rw [o6 _ _ (by omega)]; exact k3
  · rw [o6 _ _ (by omega)]; exact k4
  · rw [l6, k5 i hi, d4.1, d3.1, d2.1, d1.1]
  · rw [eF, ← orF_assoc]
    exact gw3.fr (fun j hj => by rw [o6 _ _ (by omega), o5 _ _ (by omega) (by omega) (by omega)]; exact e4 j hj)
  · rw [eF, ← orF_assoc]
    refine gs3.mono ?_
    rw [etY, s2, s5, s6]
    exact tk_le (0, Y.1.2 + 3)
  · have hq2 : ∀ q ∈ TW, q.2.2.2 = 2 → q = (3, 110, 6, 2) := by decide
    have e := hq2 q hq hq5
    subst e
    dsimp only
    rw [← eS6, upI_at, if_pos ⟨rfl, rfl⟩, gv3]
    show nI _ = nI (wS M.2.1 3 (Y.2.1 2) (tkV c L (Y.1.2 + 2)) 3 (Y.2.1 2))
    rw [wS_s]
theorem r_tell7 {Y : SY} {M : SM} (hn : 30000 ≤ n) (hLb : L ≤ 2000) (hT : RTk c L S) (hsd : sd < 2) (h : RRt c L sd Y M S) (h0 : Y.1.1 = 0) (hk : tkK c L Y.1.2 = 7) :
    Ok ((E_X12_next n S (7 : Int32)).bind fun v70 => (E_X12_named n v70.2 ).bind fun v71 => (E_X12_known n v71.2 (2 : Int32)).bind fun v72 => (E_X12_bounded n v72.2 (1 : Int32) (99 : Int32)).bind fun v73 => (E_X12_comes n v73.2 (7 : Int32)).bind fun S75 => (E_X12_notes n S75 v71.1 (3 : Int32) v70.1).bind fun S77 => if (S77.1 95 13) = 0 then (wr S77 122 12 (((6 : Int32) * (S77.1 95 19)) + v70.1) v72.1).bind fun S79 => (wr S79 123 12 (((6 : Int32) * (S79.1 95 19)) + v70.1) v73.1).bind fun S80 => some S80 else some S77) (fun S' => D2 (XTs sd 7 (Y.2.1 7) (nmN Y.2.1)) YNo S S' ∧ RRt c L sd (syT (tkK c L) (tkV c L) Y) (seT (tkK c L) (tkV c L) Y.2.1 Y.1.2 M) S') := by
  obtain ⟨⟨w1, S1⟩, f1, d1, b1, g1, wr1, sb1⟩ := r_beg (n := n) (k := 7) h h0 hT hk (by decide) hsd
  dsimp only at d1 b1 g1 wr1 sb1
  apply Ok.step (show E_X12_next n S (7 : Int32) = some (w1, S1) from f1)
  have hT1 := hT.fl d1
  obtain ⟨⟨w2, S2⟩, f2, d2, b2, ⟨t, t1, t2, t3⟩, g2⟩ := r_new (n := n) (sf := M.2.2) hn hLb hT1 b1 (fun z => z) (fun _ => wr1) (fun _ => sb1)
  dsimp only at d2 b2 t2 g2
  subst t2
  apply Ok.step f2
  have hT2 := hT1.sm d2
  obtain ⟨⟨w3, S3⟩, f3, d3, b3, g3⟩ := r_old (n := n) (k := 2) (sf := orF M.2.2 (cNew (tkV c L) M.1 (begY (tkK c L) 7 (Y.2.1 7) Y.1).2)) hn (by decide) hLb hT2 b2 (fun z => (orF_none z).1) (fun z => (g2 z).1) (fun z => (g2 z).2)
  dsimp only at d3 b3 g3
  apply Ok.step (show E_X12_known n S2 (2 : Int32) = some (w3, S3) from f3)
  have hT3 := hT2.sm d3
  obtain ⟨⟨w4, S4⟩, f4, d4, b4, g4, _⟩ := r_num (n := n) (lo := 1) (hi := 99) hLb (by decide) (by decide) hT3 b3 (fun z => (g3 z).1) (fun z => (g3 z).2.1)
  dsimp only at d4 b4 g4
  apply Ok.step (show E_X12_bounded n S3 (1 : Int32) (99 : Int32) = some (w4, S4) from f4)
  have hT4 := hT3.sm d4
  obtain ⟨S5, f5, d5, hT5, y5, hw5, e19, e20, c5, e5, i5⟩ := r_end (n := n) (k := 7) (by decide) hsd hT4 b4
  apply Ok.step (show E_X12_comes n S4 (7 : Int32) = some S5 from f5)
  have etY : tY (tkK c L) (tkV c L) 7 (Y.2.1 7) Y.1 = tk (tkK c L) 22 (tk (tkK c L) 21 (tk (tkK c L) 20 (tk (tkK c L) 20 (begY (tkK c L) 7 (Y.2.1 7) Y.1)))) := rfl
  rw [← etY] at y5 hw5 c5 i5
  have hwY := h.2.1
  have hcm := (h.2.2.2 h0).1
  have eF : semF (tkK c L) (tkV c L) M.1 7 Y.1.2 = orF (cNew (tkV c L) M.1 (Y.1.2 + 1)) (orF (cOld (tkV c L) M.1 2 (Y.1.2 + 2)) (cIn (tkV c L) 1 99 (Y.1.2 + 3))) := rfl
  have suc : (tY (tkK c L) (tkV c L) 7 (Y.2.1 7) Y.1).1 = 0 → Y.2.1 7 ≠ cmx 7 ∧ begY (tkK c L) 7 (Y.2.1 7) Y.1 = (0, Y.1.2 + 1) ∧ tkK c L (Y.1.2 + 1) = 20 ∧ (∀ i, i < Y.1.2 + 1 → tkK c L i ≠ 35) ∧ tk (tkK c L) 20 (0, Y.1.2 + 1) = (0, Y.1.2 + 2) ∧ tk (tkK c L) 20 (0, Y.1.2 + 2) = (0, Y.1.2 + 3) ∧ tk (tkK c L) 21 (0, Y.1.2 + 3) = (0, Y.1.2 + 4) := fun z => by
    obtain ⟨s1, s2, s3, s4⟩ := beg_0 hwY (by decide) z
    have hp : (tk (tkK c L) 21 (tk (tkK c L) 20 (tk (tkK c L) 20 (0, Y.1.2 + 1)))).1 = 0 := s3
    obtain ⟨q1, q2, q3, q4⟩ := tk_0 hp
    obtain ⟨p1, p2, p3, p4⟩ := tk_0 q1
    obtain ⟨a1, a2, a3, a4⟩ := tk_0 p1
    have a4' : tk (tkK c L) 20 (0, Y.1.2 + 1) = (0, Y.1.2 + 2) := a4
    rw [a4'] at p4 q4
    have p4' : tk (tkK c L) 20 (0, Y.1.2 + 2) = (0, Y.1.2 + 3) := p4
    rw [p4'] at q4
    refine ⟨s1, s2, a2, ?_, a4', p4', q4⟩
    have := b1.2.1.2.2
    rw [s2] at this
    exact this
  obtain ⟨S6, f6, d6, n6, n6'⟩ := r_notes (n := n) (j := t) (s := 3) (w := w1) (nn := nmN Y.2.1) hT5 y5 hw5.1 t1 e20 (fun z => by
    obtain ⟨s1, s2, s3, s4, s5, s6, s7⟩ := suc z
    have et := t3 (by rw [s2])
    rw [s2] at et
    subst et
    exact ⟨nmN_lt hcm (k := 7) rfl s1, s4, s3⟩)
  apply Ok.step (show E_X12_notes n S5 (nI t) (3 : Int32) w1 = some S6 from f6)
  have o6 : ∀ a j, a ≠ 104 → a ≠ 105 → (a ≠ 95 ∨ j ≠ 20) → S6.1 a j = S5.1 a j := fun a j h1 h2 h3 => d6.2 _ _ (by simp only [XNo, Bool.or_eq_false_iff, Bool.and_eq_false_iff, beq_eq_false_iff_ne]; omega)
  have dA : D2 (XTs sd 7 (Y.2.1 7) (nmN Y.2.1)) YNo S S6 := (((((D2.fl d1).trans (D2.sm d2)).trans (D2.sm d3)).trans (D2.sm d4)).trans (D2.co d5)).trans (D2.no rfl d6)
  have y6 : RY c L (tY (tkK c L) (tkV c L) 7 (Y.2.1 7) Y.1) S6 := y5.fr (fun j hj => o6 _ _ (by omega) (by omega) (by omega))
  have e13 : S6.1 95 13 = S5.1 95 13 := o6 _ _ (by omega) (by omega) (by omega)
  by_cases z : (tY (tkK c L) (tkV c L) 7 (Y.2.1 7) Y.1).1 = 0
  case neg => exact Ok.ifF (fun q => z (i5.mp (e13 ▸ q))) (Ok.ret ⟨dA, h.fin h0 hk (by decide) hsd dA y6 (fun q => absurd q z)⟩)
  refine Ok.ifT (by rw [e13]; exact i5.mpr z) ?_
  obtain ⟨s1, s2, s3, s4, s5, s6, s7⟩ := suc z
  have et := t3 (by rw [s2])
  rw [s2] at et
  subst et
  obtain ⟨k1, k2, k3, k4, k5⟩ := n6 z
  rw [s2, s5] at g2
  rw [s2, s5, s6] at g3
  rw [s2, s5, s6, s7] at g4
  obtain ⟨gv4, gw4, gs4⟩ := g4 rfl
  obtain ⟨gw3, gs3, gv3⟩ := g3 rfl
  dsimp only at gv4 gw4 gs4 gv3
  have hm5 : Y.2.1 7 ≤ 6 := hcm 7 (by decide)
  have hm5' : Y.2.1 7 ≠ 6 := s1
  have e1 := g1 s1
  subst e1
  have e19' : S6.1 95 19 = nI sd := by rw [o6 _ _ (by omega) (by omega) (by omega)]; exact e19
  rw [show (6 : Int32) = nI 6 from rfl, row_ix e19']
  apply Ok.step (wr_nI (by omega) (by decide))
  have e19'' : (upI S6 122 (6 * sd + Y.2.1 7) w3).1 95 19 = nI sd := by rw [upI_at, if_neg (by omega)]; exact e19'
  rw [row_ix e19'']
  apply Ok.step (wr_nI (by omega) (by decide))
  generalize eS7 : upI (upI S6 122 (6 * sd + Y.2.1 7) w3) 123 (6 * sd + Y.2.1 7) w4 = S7
  have x1 : XTs sd 7 (Y.2.1 7) (nmN Y.2.1) 122 (6 * sd + Y.2.1 7) = true := xts_row (a := 122) (by decide) (by decide) rfl rfl (by omega)
  have x2 : XTs sd 7 (Y.2.1 7) (nmN Y.2.1) 123 (6 * sd + Y.2.1 7) = true := xts_row (a := 123) (by decide) (by decide) rfl rfl (by omega)
  have dB : D2 (XTs sd 7 (Y.2.1 7) (nmN Y.2.1)) YNo S S7 := by rw [← eS7]; exact (dA.up x1).up x2
  have o7 : ∀ a j, a ≠ 122 → a ≠ 123 → S7.1 a j = S6.1 a j := fun a j h1 h2 => by rw [← eS7, upI_at, if_neg (by omega), upI_at, if_neg (by omega)]
  have l7 : S7.2 = S6.2 := by rw [← eS7]; rfl
  refine Ok.ret ⟨dB, h.fin h0 hk (by decide) hsd dB (y6.fr (fun j hj => o7 _ _ (by omega) (by omega))) (fun _ => ⟨?_, fun _ => ⟨?_, ?_, ?_, ?_, fun i hi => ?_⟩, fun hn => (by cases hn), ?_, ?_, fun hM hF q hq hq5 => ?_⟩)⟩
  · rw [o7 _ _ (by omega) (by omega), o6 _ _ (by omega) (by omega) (by omega)]; exact c5 z
  · rw [o7 _ _ (by omega) (by omega)]; exact k1
  · rw [l7]; exact k2
  · rw [o7 _ _ (by omega) (by omega)]; exact k3
  · rw [o7 _ _ (by omega) (by omega)]; exact k4
  · rw [l7, k5 i hi, d5.1, d4.1, d3.1, d2.1, d1.1]
  · rw [eF, ← orF_assoc, ← orF_assoc]
    exact gw4.fr (fun j hj => by rw [o7 _ _ (by omega) (by omega), o6 _ _ (by omega) (by omega) (by omega)]; exact e5 j hj)
  · rw [eF, ← orF_assoc, ← orF_assoc]
    refine gs4.mono ?_
    rw [etY, s2, s5, s6, s7]
    exact tk_le (0, Y.1.2 + 4)
  · rw [eF] at hF
    obtain ⟨hF1, hF2⟩ := orF_none hF
    obtain ⟨hF2, hF3⟩ := orF_none hF2
    obtain ⟨m2, hm2⟩ := cOld_none hF2
    have v3 := ((gv3 (by rw [hM, hF1]; rfl)).1 m2 hm2).1
    have hq2 : ∀ q ∈ TW, q.2.2.2 = 7 → q = (15, 122, 6, 7) ∨ q = (16, 123, 6, 7) := by decide
    have eW : semW (tkK c L) (tkV c L) M.1 7 (Y.2.1 7) Y.1.2 M.2.1 = wS (wS M.2.1 15 (Y.2.1 7) (oN (tkV c L) M.1 2 (Y.1.2 + 2))) 16 (Y.2.1 7) (tkV c L (Y.1.2 + 3)) := rfl
    rw [eW]
    rcases hq2 q hq hq5 with e | e
    · subst e
      dsimp only
      rw [← eS7, upI_at, if_neg (by omega), upI_at, if_pos ⟨rfl, rfl⟩, v3, wS_n (Or.inl (by decide)), wS_s, oN_of hm2]
    · subst e
      dsimp only
      rw [← eS7, upI_at, if_pos ⟨rfl, rfl⟩, gv4, wS_s]
end RTK
