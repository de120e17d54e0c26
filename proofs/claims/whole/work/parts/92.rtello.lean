/-! ===== the reference is told: stays ===== -/
section RTJ
variable {n L sd k m : Nat} {c : Nat → Nat} {S S' : ST}
theorem r_tell4 {Y : SY} {M : SM} (hn : 30000 ≤ n) (hLb : L ≤ 2000) (hT : RTk c L S) (hsd : sd < 2) (h : RRt c L sd Y M S) (h0 : Y.1.1 = 0) (hk : tkK c L Y.1.2 = 4) :
    Ok (E_X12_tellStay n S) (fun S' => D2 (XTs sd 4 (Y.2.1 4) (nmN Y.2.1)) YNo S S' ∧ RRt c L sd (syT (tkK c L) (tkV c L) Y) (seT (tkK c L) (tkV c L) Y.2.1 Y.1.2 M) S') := by
  unfold E_X12_tellStay
  obtain ⟨⟨w1, S1⟩, f1, d1, b1, g1, wr1, sb1⟩ := r_beg (n := n) (k := 4) h h0 hT hk (by decide) hsd
  dsimp only at d1 b1 g1 wr1 sb1
  apply Ok.step (show E_X12_next n S (4 : Int32) = some (w1, S1) from f1)
  have hT1 := hT.fl d1
  obtain ⟨⟨w2, S2⟩, f2, d2, b2, g2⟩ := r_old (n := n) (k := 1) (sf := M.2.2) hn (by decide) hLb hT1 b1 (fun z => z) (fun _ => wr1) (fun _ => sb1)
  dsimp only at d2 b2 g2
  apply Ok.step (show E_X12_known n S1 (1 : Int32) = some (w2, S2) from f2)
  have hT2 := hT1.sm d2
  obtain ⟨⟨w3, S3⟩, f3, d3, b3, g3⟩ := r_old (n := n) (k := 0) (sf := orF M.2.2 (cOld (tkV c L) M.1 1 (begY (tkK c L) 4 (Y.2.1 4) Y.1).2)) hn (by decide) hLb hT2 b2 (fun z => (orF_none z).1) (fun z => (g2 z).1) (fun z => (g2 z).2.1)
  dsimp only at d3 b3 g3
  apply Ok.step (show E_X12_known n S2 (0 : Int32) = some (w3, S3) from f3)
  have hT3 := hT2.sm d3
  obtain ⟨⟨w4, S4⟩, f4, d4, b4, g4, u4, hu4, ew4⟩ := r_num (n := n) (lo := 0) (hi := 23) hLb (by decide) (by decide) hT3 b3 (fun z => (g3 z).1) (fun z => (g3 z).2.1)
  dsimp only at d4 b4 g4 ew4
  apply Ok.step (show E_X12_bounded n S3 (0 : Int32) (23 : Int32) = some (w4, S4) from f4)
  have hT4 := hT3.sm d4
  have hwY := h.2.1
  have etY : tY (tkK c L) (tkV c L) 4 (Y.2.1 4) Y.1 = tk (tkK c L) 22 (tk (tkK c L) 21 (tk (tkK c L) 21 (tk (tkK c L) 20 (tk (tkK c L) 20 (begY (tkK c L) 4 (Y.2.1 4) Y.1))))) := rfl
  have eF : semF (tkK c L) (tkV c L) M.1 4 Y.1.2 = orF (cOld (tkV c L) M.1 1 (Y.1.2 + 1)) (orF (cOld (tkV c L) M.1 0 (Y.1.2 + 2)) (orF (cIn (tkV c L) 0 23 (Y.1.2 + 3)) (cIn (tkV c L) (tkV c L (Y.1.2 + 3)) 23 (Y.1.2 + 4)))) := rfl
  have rest : ∀ lo, lo < 10000 → (u4 ≤ 23 → lo = u4) → Ok ((E_X12_bounded n S4 (nI lo) (23 : Int32)).bind fun v6 => (E_X12_comes n v6.2 (4 : Int32)).bind fun S8 => if (S8.1 95 13) ≤ 0 then (wr S8 113 40 (((20 : Int32) * (S8.1 95 19)) + w1) w2).bind fun S10 => (wr S10 114 40 (((20 : Int32) * (S10.1 95 19)) + w1) w3).bind fun S11 => (wr S11 115 40 (((20 : Int32) * (S11.1 95 19)) + w1) w4).bind fun S12 => (wr S12 116 40 (((20 : Int32) * (S12.1 95 19)) + w1) v6.1).bind fun S13 => some S13 else some S8) (fun S' => D2 (XTs sd 4 (Y.2.1 4) (nmN Y.2.1)) YNo S S' ∧ RRt c L sd (syT (tkK c L) (tkV c L) Y) (seT (tkK c L) (tkV c L) Y.2.1 Y.1.2 M) S') := fun lo hlo hlo2 => by
    obtain ⟨⟨w5, S5⟩, f5, d5, b5, g5, _⟩ := r_num (n := n) (lo := lo) (hi := 23) hLb hlo (by decide) hT4 b4 (fun z => (g4 z).2.1) (fun z => (g4 z).2.2)
    dsimp only at d5 b5 g5
    apply Ok.step (show E_X12_bounded n S4 (nI lo) (23 : Int32) = some (w5, S5) from f5)
    have hT5 := hT4.sm d5
    obtain ⟨S6, f6, d6, hT6, y6, hw6, e19, e20, c6, e6, i6⟩ := r_end (n := n) (k := 4) (by decide) hsd hT5 b5
    apply Ok.step (show E_X12_comes n S5 (4 : Int32) = some S6 from f6)
    rw [← etY] at y6 hw6 c6 i6
    have dA : D2 (XTs sd 4 (Y.2.1 4) (nmN Y.2.1)) YNo S S6 := (((((D2.fl d1).trans (D2.sm d2)).trans (D2.sm d3)).trans (D2.sm d4)).trans (D2.sm d5)).trans (D2.co d6)
    by_cases z : (tY (tkK c L) (tkV c L) 4 (Y.2.1 4) Y.1).1 = 0
    case neg =>
      refine Ok.ifF ?_ (Ok.ret ⟨dA, h.fin h0 hk (by decide) hsd dA y6 (fun q => absurd q z)⟩)
      rw [y6.1]
      have := hw6.1
      exact nI_nle (by omega) (by omega)
    refine Ok.ifT (by rw [y6.1, z]; decide) ?_
    obtain ⟨s1, s2, s3, s4⟩ := beg_0 hwY (by decide) z
    have hp : (tk (tkK c L) 21 (tk (tkK c L) 21 (tk (tkK c L) 20 (tk (tkK c L) 20 (0, Y.1.2 + 1))))).1 = 0 := s3
    obtain ⟨q1, q2, q3, q4⟩ := tk_0 hp
    obtain ⟨p1, p2, p3, p4⟩ := tk_0 q1
    obtain ⟨a1, a2, a3, a4⟩ := tk_0 p1
    obtain ⟨c1, c2, c3, c5⟩ := tk_0 a1
    have c5' : tk (tkK c L) 20 (0, Y.1.2 + 1) = (0, Y.1.2 + 2) := c5
    rw [c5'] at a4 p4 q4
    have a4' : tk (tkK c L) 20 (0, Y.1.2 + 2) = (0, Y.1.2 + 3) := a4
    rw [a4'] at p4 q4
    have p4' : tk (tkK c L) 21 (0, Y.1.2 + 3) = (0, Y.1.2 + 4) := p4
    rw [p4'] at q4
    have q4' : tk (tkK c L) 21 (0, Y.1.2 + 4) = (0, Y.1.2 + 5) := q4
    rw [s2, c5'] at g2
    rw [s2, c5', a4'] at g3
    rw [s2, c5', a4', p4'] at g4
    rw [s2, c5', a4', p4', q4'] at g5
    obtain ⟨gv5, gw5, gs5⟩ := g5 rfl
    obtain ⟨gv4, gw4, gs4⟩ := g4 rfl
    obtain ⟨gw3, gs3, gv3⟩ := g3 rfl
    obtain ⟨gw2, gs2, gv2⟩ := g2 rfl
    dsimp only at gw3 gs3 gv3 gw2 gs2 gv2 gv4 gw4 gs4 gv5 gw5 gs5
    have eu : u4 = tkV c L (Y.1.2 + 3) := by
      have hp4 : tkK c L (Y.1.2 + 3) = 21 := by rw [c5', a4'] at p2; exact p2
      have := tkV_lt hp4
      rw [ew4] at gv4
      exact (nI_eq (by omega) (by omega)).mp gv4
    have eS : orF (orF (orF (orF M.2.2 (cOld (tkV c L) M.1 1 (Y.1.2 + 1))) (cOld (tkV c L) M.1 0 (Y.1.2 + 2))) (cIn (tkV c L) 0 23 (Y.1.2 + 3))) (cIn (tkV c L) lo 23 (Y.1.2 + 4)) = orF M.2.2 (semF (tkK c L) (tkV c L) M.1 4 Y.1.2) := by
      rw [eF, orF_assoc, orF_assoc, orF_assoc]
      by_cases hv : tkV c L (Y.1.2 + 3) ≤ 23
      · rw [hlo2 (by omega), eu]
      · have : cIn (tkV c L) 0 23 (Y.1.2 + 3) = some (5, Y.1.2 + 3) := if_neg (fun q => hv q.2)
        rw [this]; rfl
    have hm5 : Y.2.1 4 ≤ 20 := (h.2.2.2 h0).1 4 (by decide)
    have hm5' : Y.2.1 4 ≠ 20 := s1
    have e1 := g1 s1
    subst e1
    rw [show (20 : Int32) = nI 20 from rfl, row_ix e19]
    apply Ok.step (wr_nI (by omega) (by decide))
    have e19a : (upI S6 113 (20 * sd + Y.2.1 4) w2).1 95 19 = nI sd := by rw [upI_at, if_neg (by omega)]; exact e19
    rw [row_ix e19a]
    apply Ok.step (wr_nI (by omega) (by decide))
    have e19b : (upI (upI S6 113 (20 * sd + Y.2.1 4) w2) 114 (20 * sd + Y.2.1 4) w3).1 95 19 = nI sd := by rw [upI_at, if_neg (by omega)]; exact e19a
    rw [row_ix e19b]
    apply Ok.step (wr_nI (by omega) (by decide))
    have e19c : (upI (upI (upI S6 113 (20 * sd + Y.2.1 4) w2) 114 (20 * sd + Y.2.1 4) w3) 115 (20 * sd + Y.2.1 4) w4).1 95 19 = nI sd := by rw [upI_at, if_neg (by omega)]; exact e19b
    rw [row_ix e19c]
    apply Ok.step (wr_nI (by omega) (by decide))
    generalize eS7 : upI (upI (upI (upI S6 113 (20 * sd + Y.2.1 4) w2) 114 (20 * sd + Y.2.1 4) w3) 115 (20 * sd + Y.2.1 4) w4) 116 (20 * sd + Y.2.1 4) w5 = S7
    have x1 : XTs sd 4 (Y.2.1 4) (nmN Y.2.1) 113 (20 * sd + Y.2.1 4) = true := xts_row (a := 113) (by decide) (by decide) rfl rfl (by omega)
    have x2 : XTs sd 4 (Y.2.1 4) (nmN Y.2.1) 114 (20 * sd + Y.2.1 4) = true := xts_row (a := 114) (by decide) (by decide) rfl rfl (by omega)
    have x3 : XTs sd 4 (Y.2.1 4) (nmN Y.2.1) 115 (20 * sd + Y.2.1 4) = true := xts_row (a := 115) (by decide) (by decide) rfl rfl (by omega)
    have x4 : XTs sd 4 (Y.2.1 4) (nmN Y.2.1) 116 (20 * sd + Y.2.1 4) = true := xts_row (a := 116) (by decide) (by decide) rfl rfl (by omega)
    have dB : D2 (XTs sd 4 (Y.2.1 4) (nmN Y.2.1)) YNo S S7 := by rw [← eS7]; exact (((dA.up x1).up x2).up x3).up x4
    have o7 : ∀ a j, a < 113 ∨ 116 < a → S7.1 a j = S6.1 a j := fun a j h1 => by rw [← eS7, upI_at, if_neg (by omega), upI_at, if_neg (by omega), upI_at, if_neg (by omega), upI_at, if_neg (by omega)]
    refine Ok.ret ⟨dB, h.fin h0 hk (by decide) hsd dB (y6.fr (fun j hj => o7 _ _ (by omega))) (fun _ => ⟨?_, fun hn => (by cases hn), fun _ => ?_, ?_, ?_, fun hM hF q hq hq5 => ?_⟩)⟩
    · rw [o7 _ _ (by omega)]; exact c6 z
    · rw [← eS7]
      show S6.2 103 = S.2 103
      rw [d6.1, d5.1, d4.1, d3.1, d2.1, d1.1]
    · rw [← eS]
      exact gw5.fr (fun j hj => by rw [o7 _ _ (by omega)]; exact e6 j hj)
    · rw [← eS]
      refine gs5.mono ?_
      rw [etY, s2, c5', a4', p4', q4']
      exact tk_le (0, Y.1.2 + 5)
    · rw [eF] at hF
      obtain ⟨hF1, hF2⟩ := orF_none hF
      obtain ⟨hF2, hF3⟩ := orF_none hF2
      obtain ⟨m1, hm1⟩ := cOld_none hF1
      obtain ⟨m2, hm2⟩ := cOld_none hF2
      have v2 := ((gv2 hM).1 m1 hm1).1
      have v3 := ((gv3 (by rw [hM, hF1]; rfl)).1 m2 hm2).1
      have hq2 : ∀ q ∈ TW, q.2.2.2 = 4 → q = (6, 113, 20, 4) ∨ q = (7, 114, 20, 4) ∨ q = (8, 115, 20, 4) ∨ q = (9, 116, 20, 4) := by decide
      have eW : semW (tkK c L) (tkV c L) M.1 4 (Y.2.1 4) Y.1.2 M.2.1 = wS (wS (wS (wS M.2.1 6 (Y.2.1 4) (oN (tkV c L) M.1 1 (Y.1.2 + 1))) 7 (Y.2.1 4) (oN (tkV c L) M.1 0 (Y.1.2 + 2))) 8 (Y.2.1 4) (tkV c L (Y.1.2 + 3))) 9 (Y.2.1 4) (tkV c L (Y.1.2 + 4)) := rfl
      rw [eW]
      rcases hq2 q hq hq5 with e | e | e | e
      · subst e
        dsimp only
        rw [← eS7, upI_at, if_neg (by omega), upI_at, if_neg (by omega), upI_at, if_neg (by omega), upI_at, if_pos ⟨rfl, rfl⟩, v2, wS_n (Or.inl (by decide)), wS_n (Or.inl (by decide)), wS_n (Or.inl (by decide)), wS_s, oN_of hm1]
      · subst e
        dsimp only
        rw [← eS7, upI_at, if_neg (by omega), upI_at, if_neg (by omega), upI_at, if_pos ⟨rfl, rfl⟩, v3, wS_n (Or.inl (by decide)), wS_n (Or.inl (by decide)), wS_s, oN_of hm2]
      · subst e
        dsimp only
        rw [← eS7, upI_at, if_neg (by omega), upI_at, if_pos ⟨rfl, rfl⟩, gv4, wS_n (Or.inl (by decide)), wS_s]
      · subst e
        dsimp only
        rw [← eS7, upI_at, if_pos ⟨rfl, rfl⟩, gv5, wS_s]
  apply Ok.jnU
  rw [ew4]
  by_cases c23 : u4 ≤ 23
  · refine Ok.ifT (nI_le (b := 23) c23 (by decide)) ?_
    rw [ew4] at rest
    exact rest u4 hu4 (fun _ => rfl)
  · refine Ok.ifF (nI_ge (a := 23) (by omega) (by omega)) ?_
    rw [ew4] at rest
    exact rest 0 (by decide) (fun q => absurd q c23)
end RTJ
