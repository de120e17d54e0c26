/-! ===== the reference is told: what is known, musts, things ===== -/
section RTG
variable {n L sd k m : Nat} {c : Nat → Nat} {S S' : ST}
theorem beg_0 {K V : Nat → Nat} {y : Nat × Nat} (hw : yW K y) (hk : k < 11) (z : (tY K V k m y).1 = 0) : m ≠ cmx k ∧ begY K k m y = (0, y.2 + 1) ∧ (pfx K V k (0, y.2 + 1)).1 = 0 ∧ tY K V k m y = (0, (pfx K V k (0, y.2 + 1)).2 + 1) := by
  obtain ⟨t1, t2, t3, t4, t5, t6⟩ := tY_lt hw hk z
  rw [t3] at t4 t5
  exact ⟨t2, by unfold begY; rw [if_neg t2]; exact t3, t4, t5⟩
/-- the end of a tell: the semicolon, the count -/
theorem r_end {cnt : Nat → Nat} {M : SM} {y : Nat × Nat} (hk8 : k < 8) (hsd : sd < 2) (hT : RTk c L S) (hB : Beg c L sd cnt M y S) : Ok (E_X12_comes n S (nI k)) (fun S' => Df (XCo (8 * sd + k)) S S' ∧ RTk c L S' ∧ RY c L (tk (tkK c L) 22 y) S' ∧ yW (tkK c L) (tk (tkK c L) 22 y) ∧ S'.1 95 19 = nI sd ∧ S'.1 95 20 = nI (nmN cnt) ∧ ((tk (tkK c L) 22 y).1 = 0 → S'.1 106 (8 * sd + k) = nI (cnt k + 1)) ∧ (∀ j, j = 15 ∨ j = 16 → S'.1 95 j = S.1 95 j) ∧ (S'.1 95 13 = 0 ↔ (tk (tkK c L) 22 y).1 = 0)) := by
  refine (r_comes (n := n) (k := k) (m := cnt k) hk8 hsd hT hB.1 hB.2.1 hB.2.2.1 (hB.2.2.2.2.2.1 k hk8)).mono (fun S3 h => ?_)
  obtain ⟨d3, y3, c3, e3⟩ := h
  have w3 := tk_w (k := 22) hB.2.1 (by decide)
  refine ⟨d3, hT.d2 (D2.of (Y := YN) d3) (fun a j h1 h2 => by
    simp only [XCo, XSm, Bool.or_eq_false_iff, Bool.and_eq_false_iff, beq_eq_false_iff_ne]; omega) rfl, y3, w3, by rw [d3.2 _ _ rfl]; exact hB.2.2.1, by rw [d3.2 _ _ rfl]; exact hB.2.2.2.1, c3, e3, ?_⟩
  rw [y3.1]
  have := w3.1
  exact nI_eq (b := 0) (by omega) (by decide)
theorem row_ix {cap m : Nat} (h19 : S.1 95 19 = nI sd) : ((nI cap) * (S.1 95 19)) + nI m = nI (cap * sd + m) := by rw [h19, nI_mulN, nI_add]
theorem oN_of {V : Nat → Nat} {T : NTb} {k j m : Nat} (h : oldN V T k j = some m) : oN V T k j = m := by unfold oN; rw [h]; rfl
theorem cOld_none {V : Nat → Nat} {T : NTb} {k j : Nat} (h : cOld V T k j = none) : ∃ m, oldN V T k j = some m := by
  unfold cOld at h
  cases ho : oldN V T k j with
  | none => rw [ho] at h; cases h
  | some m => exact ⟨m, rfl⟩
theorem orF_none {a b : SF} (h : orF a b = none) : a = none ∧ b = none := by
  cases a with
  | none => exact ⟨rfl, h⟩
  | some x => cases h
theorem XCo_ne {u a j : Nat} (h : a ≠ 95 ∧ a ≠ 106) : XCo u a j = false := by
  simp only [XCo, XSm, Bool.or_eq_false_iff, Bool.and_eq_false_iff, beq_eq_false_iff_ne]; omega
/-- what is known at first -/
theorem r_tell5 {Y : SY} {M : SM} (hn : 30000 ≤ n) (hLb : L ≤ 2000) (hT : RTk c L S) (hsd : sd < 2) (h : RRt c L sd Y M S) (h0 : Y.1.1 = 0) (hk : tkK c L Y.1.2 = 5) :
    Ok ((E_X12_next n S (5 : Int32)).bind fun v50 => (E_X12_known n v50.2 (1 : Int32)).bind fun v51 => (E_X12_known n v51.2 (2 : Int32)).bind fun v52 => (E_X12_comes n v52.2 (5 : Int32)).bind fun S54 => if (S54.1 95 13) = 0 then (wr S54 117 24 (((12 : Int32) * (S54.1 95 19)) + v50.1) v51.1).bind fun S56 => (wr S56 118 24 (((12 : Int32) * (S56.1 95 19)) + v50.1) v52.1).bind fun S57 => some S57 else some S54) (fun S' => D2 (XTs sd 5 (Y.2.1 5) (nmN Y.2.1)) YNo S S' ∧ RRt c L sd (syT (tkK c L) (tkV c L) Y) (seT (tkK c L) (tkV c L) Y.2.1 Y.1.2 M) S') := by
  obtain ⟨⟨w1, S1⟩, f1, d1, b1, g1, wr1, sb1⟩ := r_beg (n := n) (k := 5) h h0 hT hk (by decide) hsd
  dsimp only at d1 b1 g1 wr1 sb1
  apply Ok.step (show E_X12_next n S (5 : Int32) = some (w1, S1) from f1)
  have hT1 := hT.fl d1
  obtain ⟨⟨w2, S2⟩, f2, d2, b2, g2⟩ := r_old (n := n) (k := 1) (sf := M.2.2) hn (by decide) hLb hT1 b1 (fun z => z) (fun _ => wr1) (fun _ => sb1)
  dsimp only at d2 b2 g2
  apply Ok.step (show E_X12_known n S1 (1 : Int32) = some (w2, S2) from f2)
  have hT2 := hT1.sm d2
  obtain ⟨⟨w3, S3⟩, f3, d3, b3, g3⟩ := r_old (n := n) (k := 2) (sf := orF M.2.2 (cOld (tkV c L) M.1 1 (begY (tkK c L) 5 (Y.2.1 5) Y.1).2)) hn (by decide) hLb hT2 b2 (fun z => (orF_none z).1) (fun z => (g2 z).1) (fun z => (g2 z).2.1)
  dsimp only at d3 b3 g3
  apply Ok.step (show E_X12_known n S2 (2 : Int32) = some (w3, S3) from f3)
  have hT3 := hT2.sm d3
  obtain ⟨S4, f4, d4, hT4, y4, hw4, e19, e20, c4, e4, i4⟩ := r_end (n := n) (k := 5) (by decide) hsd hT3 b3
  apply Ok.step (show E_X12_comes n S3 (5 : Int32) = some S4 from f4)
  have etY : tY (tkK c L) (tkV c L) 5 (Y.2.1 5) Y.1 = tk (tkK c L) 22 (tk (tkK c L) 20 (tk (tkK c L) 20 (begY (tkK c L) 5 (Y.2.1 5) Y.1))) := rfl
  rw [← etY] at y4 hw4 c4 i4
  have hwY := h.2.1
  have dA : D2 (XTs sd 5 (Y.2.1 5) (nmN Y.2.1)) YNo S S4 := (((D2.fl d1).trans (D2.sm d2)).trans (D2.sm d3)).trans (D2.co d4)
  by_cases z : (tY (tkK c L) (tkV c L) 5 (Y.2.1 5) Y.1).1 = 0
  case neg => exact Ok.ifF (fun q => z (i4.mp q)) (Ok.ret ⟨dA, h.fin h0 hk (by decide) hsd dA y4 (fun q => absurd q z)⟩)
  refine Ok.ifT (i4.mpr z) ?_
  obtain ⟨s1, s2, s3, s4⟩ := beg_0 hwY (by decide) z
  rw [s2] at g2 g3
  have hp : (tk (tkK c L) 20 (tk (tkK c L) 20 (0, Y.1.2 + 1))).1 = 0 := s3
  obtain ⟨a1, a2, a3, a4⟩ := tk_0 hp
  obtain ⟨c1, c2, c3, c5⟩ := tk_0 a1
  rw [c5] at g3
  obtain ⟨gw3, gs3, gv3⟩ := g3 (by rw [← c5]; exact hp)
  obtain ⟨gw2, gs2, gv2⟩ := g2 a1
  dsimp only at gw3 gs3 gv3 gw2 gs2 gv2
  have hm5 : Y.2.1 5 ≤ 12 := (h.2.2.2 h0).1 5 (by decide)
  have hm5' : Y.2.1 5 ≠ 12 := s1
  have e1 := g1 s1
  subst e1
  rw [show (12 : Int32) = nI 12 from rfl, row_ix e19]
  apply Ok.step (wr_nI (by omega) (by decide))
  have e19' : (upI S4 117 (12 * sd + Y.2.1 5) w2).1 95 19 = nI sd := by rw [upI_at, if_neg (by omega)]; exact e19
  rw [row_ix e19']
  apply Ok.step (wr_nI (by omega) (by decide))
  generalize eS5 : upI (upI S4 117 (12 * sd + Y.2.1 5) w2) 118 (12 * sd + Y.2.1 5) w3 = S5
  have x1 : XTs sd 5 (Y.2.1 5) (nmN Y.2.1) 117 (12 * sd + Y.2.1 5) = true := xts_row (a := 117) (by decide) (by decide) rfl rfl (by omega)
  have x2 : XTs sd 5 (Y.2.1 5) (nmN Y.2.1) 118 (12 * sd + Y.2.1 5) = true := xts_row (a := 118) (by decide) (by decide) rfl rfl (by omega)
  have dB : D2 (XTs sd 5 (Y.2.1 5) (nmN Y.2.1)) YNo S S5 := by rw [← eS5]; exact (dA.up x1).up x2
  have o5 : ∀ a j, a ≠ 117 → a ≠ 118 → S5.1 a j = S4.1 a j := fun a j h1 h2 => by rw [← eS5, upI_at, if_neg (by omega), upI_at, if_neg (by omega)]
  have eF : semF (tkK c L) (tkV c L) M.1 5 Y.1.2 = orF (cOld (tkV c L) M.1 1 (Y.1.2 + 1)) (cOld (tkV c L) M.1 2 (Y.1.2 + 2)) := rfl
  refine Ok.ret ⟨dB, h.fin h0 hk (by decide) hsd dB (y4.fr (fun j hj => o5 _ _ (by omega) (by omega))) (fun _ => ⟨?_, fun hn => (by cases hn), fun _ => ?_, ?_, ?_, fun hM hF q hq hq5 => ?_⟩)⟩
  · rw [o5 _ _ (by omega) (by omega)]; exact c4 z
  · rw [← eS5]
    show S4.2 103 = S.2 103
    rw [d4.1, d3.1, d2.1, d1.1]
  · rw [eF, ← orF_assoc]
    exact gw3.fr (fun j hj => by rw [o5 _ _ (by omega) (by omega)]; exact e4 j hj)
  · rw [eF, ← orF_assoc]
    refine gs3.mono ?_
    rw [etY, s2, c5]
    exact tk_le _
  · rw [eF] at hF
    obtain ⟨hF1, hF2⟩ := orF_none hF
    obtain ⟨m1, hm1⟩ := cOld_none hF1
    obtain ⟨m2, hm2⟩ := cOld_none hF2
    have v2 := ((gv2 hM).1 m1 hm1).1
    have v3 := ((gv3 (by rw [hM, hF1]; rfl)).1 m2 hm2).1
    have hq2 : ∀ q ∈ TW, q.2.2.2 = 5 → q = (10, 117, 12, 5) ∨ q = (11, 118, 12, 5) := by decide
    rcases hq2 q hq hq5 with e | e
    · subst e
      dsimp only
      rw [← eS5, upI_at, if_neg (by omega), upI_at, if_pos ⟨rfl, rfl⟩, v2]
      show nI m1 = nI (wS (wS M.2.1 10 (Y.2.1 5) (oN (tkV c L) M.1 1 (Y.1.2 + 1))) 11 (Y.2.1 5) (oN (tkV c L) M.1 2 (Y.1.2 + 2)) 10 (Y.2.1 5))
      rw [wS_n (Or.inl (by decide)), wS_s, oN_of hm1]
    · subst e
      dsimp only
      rw [← eS5, upI_at, if_pos ⟨rfl, rfl⟩, v3]
      show nI m2 = nI (wS (wS M.2.1 10 (Y.2.1 5) (oN (tkV c L) M.1 1 (Y.1.2 + 1))) 11 (Y.2.1 5) (oN (tkV c L) M.1 2 (Y.1.2 + 2)) 11 (Y.2.1 5))
      rw [wS_s, oN_of hm2]
end RTG
