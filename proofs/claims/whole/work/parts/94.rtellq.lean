/-! ===== the reference is told: people ===== -/
section RTL
variable {n L sd k m : Nat} {c : Nat → Nat} {S S' : ST}
theorem r_tell1 {Y : SY} {M : SM} (hn : 30000 ≤ n) (hLb : L ≤ 2000) (hT : RTk c L S) (hsd : sd < 2) (h : RRt c L sd Y M S) (h0 : Y.1.1 = 0) (hk : tkK c L Y.1.2 = 1) :
    Ok (E_X12_tellPerson n S) (fun S' => D2 (XTs sd 1 (Y.2.1 1) (nmN Y.2.1)) YNo S S' ∧ RRt c L sd (syT (tkK c L) (tkV c L) Y) (seT (tkK c L) (tkV c L) Y.2.1 Y.1.2 M) S') := by
  unfold E_X12_tellPerson
  obtain ⟨⟨w1, S1⟩, f1, d1, b1, g1, wr1, sb1⟩ := r_beg (n := n) (k := 1) h h0 hT hk (by decide) hsd
  dsimp only at d1 b1 g1 wr1 sb1
  apply Ok.step (show E_X12_next n S (1 : Int32) = some (w1, S1) from f1)
  have hT1 := hT.fl d1
  obtain ⟨⟨w2, S2⟩, f2, d2, b2, ⟨t, t1, t2, t3⟩, g2⟩ := r_new (n := n) (sf := M.2.2) hn hLb hT1 b1 (fun z => z) (fun _ => wr1) (fun _ => sb1)
  dsimp only at d2 b2 t2 g2
  subst t2
  apply Ok.step f2
  have hT2 := hT1.sm d2
  obtain ⟨⟨w3, S3⟩, f3, d3, b3, g3, _⟩ := r_num (n := n) (lo := 0) (hi := 99) hLb (by decide) (by decide) hT2 b2 (fun z => (g2 z).1) (fun z => (g2 z).2)
  dsimp only at d3 b3 g3
  apply Ok.step (show E_X12_bounded n S2 (0 : Int32) (99 : Int32) = some (w3, S3) from f3)
  have hT3 := hT2.sm d3
  have hwY := h.2.1
  have hcm := (h.2.2.2 h0).1
  have etY : tY (tkK c L) (tkV c L) 1 (Y.2.1 1) Y.1 = tk (tkK c L) 22 (birY (tkK c L) (tk (tkK c L) 21 (tk (tkK c L) 20 (begY (tkK c L) 1 (Y.2.1 1) Y.1)))) := rfl
  have eF : semF (tkK c L) (tkV c L) M.1 1 Y.1.2 = orF (cNew (tkV c L) M.1 (Y.1.2 + 1)) (orF (cIn (tkV c L) 0 99 (Y.1.2 + 2)) (if tkK c L (Y.1.2 + 3) = 11 then cIn (tkV c L) 0 23 (Y.1.2 + 4) else none)) := rfl
  have suc : (birY (tkK c L) (tk (tkK c L) 21 (tk (tkK c L) 20 (begY (tkK c L) 1 (Y.2.1 1) Y.1)))).1 = 0 → Y.2.1 1 ≠ cmx 1 ∧ begY (tkK c L) 1 (Y.2.1 1) Y.1 = (0, Y.1.2 + 1) ∧ tkK c L (Y.1.2 + 1) = 20 ∧ (∀ i, i < Y.1.2 + 1 → tkK c L i ≠ 35) ∧ tk (tkK c L) 20 (0, Y.1.2 + 1) = (0, Y.1.2 + 2) ∧ tk (tkK c L) 21 (0, Y.1.2 + 2) = (0, Y.1.2 + 3) := fun z => by
    have q1 : (tk (tkK c L) 21 (tk (tkK c L) 20 (begY (tkK c L) 1 (Y.2.1 1) Y.1))).1 = 0 := by
      rcases Nat.eq_zero_or_pos (tk (tkK c L) 21 (tk (tkK c L) 20 (begY (tkK c L) 1 (Y.2.1 1) Y.1))).1 with q | q
      · exact q
      · unfold birY at z
        rw [if_neg (fun hq => by omega)] at z
        exact z
    obtain ⟨p1, p2, p3, p4⟩ := tk_0 q1
    obtain ⟨a1, a2, a3, a4⟩ := tk_0 p1
    have hm : Y.2.1 1 ≠ cmx 1 := fun e => by
      unfold begY at a1
      rw [if_pos e] at a1
      cases a1
    have hb : begY (tkK c L) 1 (Y.2.1 1) Y.1 = (0, Y.1.2 + 1) := by
      unfold begY at a1 ⊢
      rw [if_neg hm] at a1 ⊢
      exact (tk_0 a1).2.2.2
    rw [hb] at a2 a4 p4
    rw [a4] at p4
    refine ⟨hm, hb, a2, ?_, a4, p4⟩
    have := b1.2.1.2.2
    rw [hb] at this
    exact this
  -- the end, the birth being read
  have tail : ∀ (u4 : Int32) (S5 : ST), Df XSm S3 S5 → Beg c L sd Y.2.1 M (birY (tkK c L) (tk (tkK c L) 21 (tk (tkK c L) 20 (begY (tkK c L) 1 (Y.2.1 1) Y.1)))) S5 → ((birY (tkK c L) (tk (tkK c L) 21 (tk (tkK c L) 20 (begY (tkK c L) 1 (Y.2.1 1) Y.1)))).1 = 0 → u4 = nI (bth (tkK c L) (tkV c L) Y.1.2) ∧ WR c L (orF M.2.2 (semF (tkK c L) (tkV c L) M.1 1 Y.1.2)) S5 ∧ SFb (orF M.2.2 (semF (tkK c L) (tkV c L) M.1 1 Y.1.2)) (birY (tkK c L) (tk (tkK c L) 21 (tk (tkK c L) 20 (begY (tkK c L) 1 (Y.2.1 1) Y.1)))).2) →
      Ok ((E_X12_comes n S5 (1 : Int32)).bind fun S7 => (E_X12_notes n S7 (nI t) (1 : Int32) w1).bind fun S9 => if (S9.1 95 13) ≤ 0 then (wr S9 108 20 (((10 : Int32) * (S9.1 95 19)) + w1) w3).bind fun S11 => (wr S11 109 20 (((10 : Int32) * (S11.1 95 19)) + w1) u4).bind fun S12 => some S12 else some S9) (fun S' => D2 (XTs sd 1 (Y.2.1 1) (nmN Y.2.1)) YNo S S' ∧ RRt c L sd (syT (tkK c L) (tkV c L) Y) (seT (tkK c L) (tkV c L) Y.2.1 Y.1.2 M) S') := fun u4 S5 d5 b5 g5 => by
    have hT5 := hT3.sm d5
    obtain ⟨S6, f6, d6, hT6, y6, hw6, e19, e20, c6, e6, i6⟩ := r_end (n := n) (k := 1) (by decide) hsd hT5 b5
    apply Ok.step (show E_X12_comes n S5 (1 : Int32) = some S6 from f6)
    rw [← etY] at y6 hw6 c6 i6
    have down : (tY (tkK c L) (tkV c L) 1 (Y.2.1 1) Y.1).1 = 0 → (birY (tkK c L) (tk (tkK c L) 21 (tk (tkK c L) 20 (begY (tkK c L) 1 (Y.2.1 1) Y.1)))).1 = 0 := fun z => by
      rw [etY] at z
      exact (tk_0 z).1
    obtain ⟨S7, f7, d7, n7, n7'⟩ := r_notes (n := n) (j := t) (s := 1) (w := w1) (nn := nmN Y.2.1) hT6 y6 hw6.1 t1 e20 (fun z => by
      obtain ⟨s1, s2, s3, s4, s5, s6⟩ := suc (down z)
      have et := t3 (by rw [s2])
      rw [s2] at et
      subst et
      exact ⟨nmN_lt hcm (k := 1) rfl s1, s4, s3⟩)
    apply Ok.step (show E_X12_notes n S6 (nI t) (1 : Int32) w1 = some S7 from f7)
    have o7 : ∀ a j, a ≠ 104 → a ≠ 105 → (a ≠ 95 ∨ j ≠ 20) → S7.1 a j = S6.1 a j := fun a j h1 h2 h3 => d7.2 _ _ (by simp only [XNo, Bool.or_eq_false_iff, Bool.and_eq_false_iff, beq_eq_false_iff_ne]; omega)
    have dA : D2 (XTs sd 1 (Y.2.1 1) (nmN Y.2.1)) YNo S S7 := (((((D2.fl d1).trans (D2.sm d2)).trans (D2.sm d3)).trans (D2.sm d5)).trans (D2.co d6)).trans (D2.no rfl d7)
    have y7 : RY c L (tY (tkK c L) (tkV c L) 1 (Y.2.1 1) Y.1) S7 := y6.fr (fun j hj => o7 _ _ (by omega) (by omega) (by omega))
    by_cases z : (tY (tkK c L) (tkV c L) 1 (Y.2.1 1) Y.1).1 = 0
    case neg =>
      refine Ok.ifF ?_ (Ok.ret ⟨dA, h.fin h0 hk (by decide) hsd dA y7 (fun q => absurd q z)⟩)
      rw [y7.1]
      have := hw6.1
      exact nI_nle (by omega) (by omega)
    refine Ok.ifT (by rw [y7.1, z]; decide) ?_
    have zd := down z
    obtain ⟨s1, s2, s3, s4, s5, s6⟩ := suc zd
    obtain ⟨eu, gw, gs⟩ := g5 zd
    have et := t3 (by rw [s2])
    rw [s2] at et
    subst et
    obtain ⟨k1, k2, k3, k4, k5⟩ := n7 z
    rw [s2, s5, s6] at g3
    obtain ⟨gv3, gw3, gs3⟩ := g3 rfl
    dsimp only at gv3
    have hm5 : Y.2.1 1 ≤ 10 := hcm 1 (by decide)
    have hm5' : Y.2.1 1 ≠ 10 := s1
    have e1 := g1 s1
    subst e1
    have e19' : S7.1 95 19 = nI sd := by rw [o7 _ _ (by omega) (by omega) (by omega)]; exact e19
    rw [show (10 : Int32) = nI 10 from rfl, row_ix e19']
    apply Ok.step (wr_nI (by omega) (by decide))
    have e19'' : (upI S7 108 (10 * sd + Y.2.1 1) w3).1 95 19 = nI sd := by rw [upI_at, if_neg (by omega)]; exact e19'
    rw [row_ix e19'']
    apply Ok.step (wr_nI (by omega) (by decide))
    generalize eS8 : upI (upI S7 108 (10 * sd + Y.2.1 1) w3) 109 (10 * sd + Y.2.1 1) u4 = S8
    have x1 : XTs sd 1 (Y.2.1 1) (nmN Y.2.1) 108 (10 * sd + Y.2.1 1) = true := xts_row (a := 108) (by decide) (by decide) rfl rfl (by omega)
    have x2 : XTs sd 1 (Y.2.1 1) (nmN Y.2.1) 109 (10 * sd + Y.2.1 1) = true := xts_row (a := 109) (by decide) (by decide) rfl rfl (by omega)
    have dB : D2 (XTs sd 1 (Y.2.1 1) (nmN Y.2.1)) YNo S S8 := by rw [← eS8]; exact (dA.up x1).up x2
    have o8 : ∀ a j, a ≠ 108 → a ≠ 109 → S8.1 a j = S7.1 a j := fun a j h1 h2 => by rw [← eS8, upI_at, if_neg (by omega), upI_at, if_neg (by omega)]
    have l8 : S8.2 = S7.2 := by rw [← eS8]; rfl
    refine Ok.ret ⟨dB, h.fin h0 hk (by decide) hsd dB (y7.fr (fun j hj => o8 _ _ (by omega) (by omega))) (fun _ => ⟨?_, fun _ => ⟨?_, ?_, ?_, ?_, fun i hi => ?_⟩, fun hn => (by cases hn), ?_, ?_, fun hM hF q hq hq5 => ?_⟩)⟩
    · rw [o8 _ _ (by omega) (by omega), o7 _ _ (by omega) (by omega) (by omega)]; exact c6 z
    · rw [o8 _ _ (by omega) (by omega)]; exact k1
    · rw [l8]; exact k2
    · rw [o8 _ _ (by omega) (by omega)]; exact k3
    · rw [o8 _ _ (by omega) (by omega)]; exact k4
    · rw [l8, k5 i hi, d6.1, d5.1, d3.1, d2.1, d1.1]
    · exact gw.fr (fun j hj => by rw [o8 _ _ (by omega) (by omega), o7 _ _ (by omega) (by omega) (by omega)]; exact e6 j hj)
    · refine gs.mono ?_
      rw [etY]
      exact tk_le _
    · have hq2 : ∀ q ∈ TW, q.2.2.2 = 1 → q = (1, 108, 10, 1) ∨ q = (2, 109, 10, 1) := by decide
      have eW : semW (tkK c L) (tkV c L) M.1 1 (Y.2.1 1) Y.1.2 M.2.1 = wS (wS M.2.1 1 (Y.2.1 1) (tkV c L (Y.1.2 + 2))) 2 (Y.2.1 1) (bth (tkK c L) (tkV c L) Y.1.2) := rfl
      rw [eW]
      rcases hq2 q hq hq5 with e | e
      · subst e
        dsimp only
        rw [← eS8, upI_at, if_neg (by omega), upI_at, if_pos ⟨rfl, rfl⟩, gv3, wS_n (Or.inl (by decide)), wS_s]
      · subst e
        dsimp only
        rw [← eS8, upI_at, if_pos ⟨rfl, rfl⟩, eu, wS_s]
  apply Ok.jnU
  have hw3 := b3.2.1
  by_cases y0 : (tk (tkK c L) 21 (tk (tkK c L) 20 (begY (tkK c L) 1 (Y.2.1 1) Y.1))).1 = 0
  case neg =>
    have eb : birY (tkK c L) (tk (tkK c L) 21 (tk (tkK c L) 20 (begY (tkK c L) 1 (Y.2.1 1) Y.1))) = tk (tkK c L) 21 (tk (tkK c L) 20 (begY (tkK c L) 1 (Y.2.1 1) Y.1)) := if_neg (fun q => y0 q.1)
    rw [eb] at tail
    refine Ok.ifF (fun q => y0 ?_) (tail 99 S3 (Df.refl _ _) b3 (fun q => absurd q y0))
    rw [b3.1.1] at q
    have := hw3.1
    exact (nI_eq (b := 0) (by omega) (by decide)).mp q
  refine Ok.ifT (by rw [b3.1.1, y0]; rfl) ?_
  obtain ⟨p1, p2, p3, p4⟩ := tk_0 y0
  obtain ⟨a1, a2, a3, a4⟩ := tk_0 p1
  have hb : begY (tkK c L) 1 (Y.2.1 1) Y.1 = (0, Y.1.2 + 1) := by
    unfold begY at a1 ⊢
    split at a1
    · cases a1
    · rename_i hne
      rw [if_neg hne]
      exact (tk_0 a1).2.2.2
  have s5 : tk (tkK c L) 20 (0, Y.1.2 + 1) = (0, Y.1.2 + 2) := by rw [hb] at a4; exact a4
  have s6 : tk (tkK c L) 21 (0, Y.1.2 + 2) = (0, Y.1.2 + 3) := by rw [hb, s5] at p4; exact p4
  rw [hb, s5, s6] at tail b3 hw3
  rw [hb, s5, s6] at g3
  obtain ⟨gv3, gw3, gs3⟩ := g3 rfl
  dsimp only at gv3 gw3 gs3
  have ei : E_X12_is n S3 (22 : Int32) = _ := r_is (n := n) (k := 11) hT3 b3.1 hw3 (by decide)
  apply Ok.step ei
  by_cases c11 : tkK c L (Y.1.2 + 3) = 11
  case neg =>
    refine Ok.ifT (by rw [decide_eq_false (fun q => c11 q.2)]; rfl) ?_
    have eb : birY (tkK c L) (0, Y.1.2 + 3) = (0, Y.1.2 + 3) := if_neg (fun q => c11 q.2)
    rw [eb] at tail
    refine tail 99 S3 (Df.refl _ _) b3 (fun _ => ⟨?_, ?_, ?_⟩)
    · unfold bth; rw [if_neg c11]; rfl
    · rw [eF, if_neg c11, orF_r, ← orF_assoc]; exact gw3
    · rw [eF, if_neg c11, orF_r, ← orF_assoc]; exact gs3
  refine Ok.ifF (by rw [decide_eq_true ⟨rfl, c11⟩]; decide) ?_
  have eb : birY (tkK c L) (0, Y.1.2 + 3) = tk (tkK c L) 21 (tk (tkK c L) 11 (0, Y.1.2 + 3)) := if_pos ⟨rfl, c11⟩
  rw [eb] at tail
  obtain ⟨S4, f4, d4, y4⟩ := r_goesOn (n := n) hT3 b3.1 hw3
  apply Ok.step f4
  rw [← tk_gy (K := tkK c L) (k := 11) (fun _ => c11)] at y4
  have hw4 := tk_w (k := 11) hw3 (by decide)
  have b4 := b3.sm (XFl_Sm d4) y4 hw4
  have hT4 := hT3.fl d4
  obtain ⟨⟨w5, S5⟩, f5, d5, b5, g5, _⟩ := r_num (n := n) (sf := orF (orF M.2.2 (cNew (tkV c L) M.1 (Y.1.2 + 1))) (cIn (tkV c L) 0 99 (Y.1.2 + 2))) (lo := 0) (hi := 23) hLb (by decide) (by decide) hT4 b4 (fun _ => gw3.fr (fun j hj => d4.2 _ _ (by simp only [XFl, Bool.and_eq_false_iff, Bool.or_eq_false_iff, beq_eq_false_iff_ne]; omega))) (fun _ => SFb.mono gs3 (tk_le (0, Y.1.2 + 3)))
  dsimp only at d5 b5 g5
  apply Ok.step (show E_X12_bounded n S4 (0 : Int32) (23 : Int32) = some (w5, S5) from f5)
  refine tail w5 S5 ((XFl_Sm d4).trans d5) b5 (fun z => ?_)
  obtain ⟨gv5, gw5, gs5⟩ := g5 z
  have e4 : tk (tkK c L) 11 (0, Y.1.2 + 3) = (0, Y.1.2 + 4) := (tk_0 (tk_0 z).1).2.2.2
  rw [e4] at gv5 gw5 gs5 ⊢
  refine ⟨?_, ?_, ?_⟩
  · unfold bth; rw [if_pos c11]; exact gv5
  · rw [eF, if_pos c11, ← orF_assoc, ← orF_assoc]; exact gw5
  · rw [eF, if_pos c11, ← orF_assoc, ← orF_assoc]; exact gs5
end RTL
