/-! ===== the reference is told: places, things ===== -/
section RTF
variable {n L sd k m nn : Nat} {c : Nat → Nat} {S S' : ST}
theorem D2.sm (d : Df XSm S S') : D2 (XTs sd k m nn) YNo S S' := (D2.of d).mono (fun a j hx => by
  simp only [XTs, Bool.or_eq_false_iff] at hx
  exact hx.1) (fun _ h => h)
theorem D2.fl (d : Df XFl S S') : D2 (XTs sd k m nn) YNo S S' := D2.sm (XFl_Sm d)
theorem D2.co (d : Df (XCo (8 * sd + k)) S S') (hk : k < 8 := by decide) : D2 (XTs sd k m nn) YNo S S' := (D2.of d).mono (fun a j hx => by
  simp only [XTs, Bool.or_eq_false_iff] at hx
  simp only [XCo, Bool.or_eq_false_iff]
  rcases cA_or (sd := sd) (k := k) (by omega) with ⟨q, _⟩ | ⟨_, q1, q2⟩
  · omega
  · rw [q1, q2] at hx
    exact ⟨hx.1, hx.2.1⟩) (fun _ h => h)
theorem D2.no (hn : isNm k = true) (d : D2 (XNo nn) YNo S S') : D2 (XTs sd k m nn) YNo S S' := d.mono (fun a j hx => by
  simp only [XTs, Bool.or_eq_false_iff, hn, Bool.true_and] at hx
  exact hx.2.2.1) (fun _ h => h)
theorem xts_row {a b : Nat} (h1 : 108 ≤ a) (h2 : a ≤ 124) (h3 : rowK a = k) (h4 : capR a = b) (h5 : m < b) : XTs sd k m nn a (b * sd + m) = true := by
  simp [XTs, h1, h2, h3, h4, h5]
/-- sums of the first fault -/
theorem sf_or {sf sf' X : SF} (h1 : ∀ x, sf = some x → sf' = some x) (h2 : sf = none → sf' = X) : sf' = orF sf X := by
  cases sf with
  | none => exact h2 rfl
  | some x => exact h1 x rfl
theorem SFb.or {sf X : SF} {j j' : Nat} (h : SFb sf j) (hj : j ≤ j') (h2 : SFb X j') : SFb (orF sf X) j' := by
  cases sf with
  | none => exact h2
  | some x => exact h.mono hj
theorem SFb_new {V : Nat → Nat} {T : NTb} {j j' : Nat} (h : j < j') : SFb (cNew V T j) j' := fun x hx => by
  unfold cNew at hx
  split at hx
  · rw [← Option.some.inj hx]; exact h
  · cases hx
theorem SFb_old {V : Nat → Nat} {T : NTb} {k j j' : Nat} (h : j < j') : SFb (cOld V T k j) j' := fun x hx => by
  unfold cOld at hx
  split at hx
  · cases hx
  · rw [← Option.some.inj hx]; exact h
theorem SFb_in {V : Nat → Nat} {lo hi j j' : Nat} (h : j < j') : SFb (cIn V lo hi j) j' := fun x hx => by
  unfold cIn at hx
  split at hx
  · cases hx
  · rw [← Option.some.inj hx]; exact h
theorem NTR.fr {T : NTb} (h : NTR T S) (e2 : S'.2 103 = S.2 103) (e : ∀ a j, a = 104 ∨ a = 105 → S'.1 a j = S.1 a j) : NTR T S' := fun j hj => by
  rw [e2, e 104 j (Or.inl rfl), e 105 j (Or.inr rfl)]
  exact h j hj
theorem nmN_le {cnt : Nat → Nat} (h : ∀ k, k < 11 → cnt k ≤ cmx k) : nmN cnt ≤ 32 := by
  have h0 : cnt 0 ≤ 6 := h 0 (by decide)
  have h1 : cnt 1 ≤ 10 := h 1 (by decide)
  have h2 : cnt 2 ≤ 6 := h 2 (by decide)
  have h7 : cnt 7 ≤ 6 := h 7 (by decide)
  have h8 : cnt 8 ≤ 4 := h 8 (by decide)
  unfold nmN
  omega
theorem nmN_lt {cnt : Nat → Nat} {k : Nat} (h : ∀ k, k < 11 → cnt k ≤ cmx k) (hk : isNm k = true) (h2 : cnt k ≠ cmx k) : nmN cnt < 32 := by
  have h0 : cnt 0 ≤ 6 := h 0 (by decide)
  have h1 : cnt 1 ≤ 10 := h 1 (by decide)
  have h3 : cnt 2 ≤ 6 := h 2 (by decide)
  have h7 : cnt 7 ≤ 6 := h 7 (by decide)
  have h8 : cnt 8 ≤ 4 := h 8 (by decide)
  have e0 : cmx 0 = 6 := rfl
  have e1 : cmx 1 = 10 := rfl
  have e2 : cmx 2 = 6 := rfl
  have e7 : cmx 7 = 6 := rfl
  have e8 : cmx 8 = 4 := rfl
  simp only [isNm, Bool.or_eq_true, beq_iff_eq] at hk
  unfold nmN
  rcases hk with z | z | z | z | z
  all_goals
    subst z
    omega
/-- what a tell finds when it begins -/
def Beg (c : Nat → Nat) (L sd : Nat) (cnt : Nat → Nat) (M : SM) (y : Nat × Nat) (S : ST) : Prop := RY c L y S ∧ yW (tkK c L) y ∧ S.1 95 19 = nI sd ∧ S.1 95 20 = nI (nmN cnt) ∧ nmN cnt ≤ 32 ∧ (∀ k, k < 8 → S.1 106 (8 * sd + k) = nI (cnt k)) ∧ (∀ k, k < 11 → cnt k ≤ 20) ∧ (M.2.2 = none → M.1.length = nmN cnt ∧ NTR M.1 S ∧ NTw cnt M.1)
theorem Beg.sm {cnt : Nat → Nat} {M : SM} {y y' : Nat × Nat} (h : Beg c L sd cnt M y S) (d : Df XSm S S') (hy : RY c L y' S') (hw : yW (tkK c L) y') : Beg c L sd cnt M y' S' := by
  obtain ⟨h1, h2, h3, h4, h5, h6, h7, h8⟩ := h
  have o : ∀ a j, (a ≠ 95 ∨ (j ≠ 11 ∧ j ≠ 13 ∧ j ≠ 14 ∧ j ≠ 15 ∧ j ≠ 16)) → S'.1 a j = S.1 a j := fun a j hj => d.2 _ _ (by simp only [XSm, Bool.and_eq_false_iff, Bool.or_eq_false_iff, beq_eq_false_iff_ne]; omega)
  refine ⟨hy, hw, by rw [o _ _ (by omega)]; exact h3, by rw [o _ _ (by omega)]; exact h4, h5, fun k hk => by rw [o _ _ (by omega)]; exact h6 k hk, h7, fun hM => ?_⟩
  obtain ⟨g1, g2, g3⟩ := h8 hM
  exact ⟨g1, g2.fr (by rw [d.1]) (fun a j ha => o _ _ (by omega)), g3⟩
/-- the word that begins a tell -/
theorem r_beg {Y : SY} {M : SM} (h : RRt c L sd Y M S) (h0 : Y.1.1 = 0) (hT : RTk c L S) (hk : tkK c L Y.1.2 = k) (hk8 : k < 8) (hsd : sd < 2) : Ok (E_X12_next n S (nI k)) (fun r => Df XFl S r.2 ∧ Beg c L sd Y.2.1 M (begY (tkK c L) k (Y.2.1 k) Y.1) r.2 ∧ (Y.2.1 k ≠ cmx k → r.1 = nI (Y.2.1 k)) ∧ WR c L M.2.2 r.2 ∧ SFb M.2.2 (begY (tkK c L) k (Y.2.1 k) Y.1).2) := by
  obtain ⟨hy0, hw, h19, hd⟩ := h
  obtain ⟨hcm, hcr, h20, hlw, hwr, hsb, htb⟩ := hd h0
  refine (r_next (n := n) hk8 hsd hT hy0 hw h0 hk h19 (hcr.1 k hk8) (hcm k (by omega))).mono (fun r hr => ?_)
  obtain ⟨d1, y1, e1⟩ := hr
  have b0 : Beg c L sd Y.2.1 M Y.1 S := ⟨hy0, hw, h19, h20, nmN_le hcm, hcr.1, fun k hk => Nat.le_trans (hcm k hk) (cmx_le hk), fun hM => by
    obtain ⟨g1, g2, g3, g4⟩ := htb hM
    exact ⟨g1, g2, g3⟩⟩
  refine ⟨d1, b0.sm (XFl_Sm d1) y1 (begY_w hw (by omega)), e1, hwr.fr (fun j hj => d1.2 _ _ (by simp only [XFl, Bool.and_eq_false_iff, Bool.or_eq_false_iff, beq_eq_false_iff_ne]; omega)), hsb.mono (begY_le _)⟩
/-- a new name -/
theorem r_new {cnt : Nat → Nat} {M : SM} {y : Nat × Nat} {sf : SF} (hn : 30000 ≤ n) (hLb : L ≤ 2000) (hT : RTk c L S) (hB : Beg c L sd cnt M y S) (hsf : sf = none → M.2.2 = none) (hWR : y.1 = 0 → WR c L sf S) (hSb : y.1 = 0 → SFb sf y.2) : Ok (E_X12_named n S) (fun r => Df XSm S r.2 ∧ Beg c L sd cnt M (tk (tkK c L) 20 y) r.2 ∧ (∃ t, t ≤ 400 ∧ r.1 = nI t ∧ (y.1 = 0 → t = y.2)) ∧ ((tk (tkK c L) 20 y).1 = 0 → WR c L (orF sf (cNew (tkV c L) M.1 y.2)) r.2 ∧ SFb (orF sf (cNew (tkV c L) M.1 y.2)) (tk (tkK c L) 20 y).2)) := by
  obtain ⟨h1, h2, h3, h4, h5, h6, h7, h8⟩ := hB
  refine (r_named (n := n) (T := M.1) (cnt := cnt) hn hT h1 h2 hLb h4 h5 (fun z => ⟨hWR z, hSb z⟩) (fun hM => h8 (hsf hM))).mono (fun r hr => ?_)
  obtain ⟨d1, y1, t1, w1⟩ := hr
  refine ⟨d1, Beg.sm ⟨h1, h2, h3, h4, h5, h6, h7, h8⟩ d1 y1 (tk_w h2 (by decide)), t1, fun z => ?_⟩
  obtain ⟨sf', g1, g2, g3⟩ := w1 z
  have e := sf_or g2 g3
  rw [← e]
  refine ⟨g1, ?_⟩
  rw [e]
  obtain ⟨a1, a2, a3, a4⟩ := tk_0 z
  rw [a4]
  exact (hSb a1).or (Nat.le_succ _) (SFb_new (Nat.lt_succ_self _))
/-- a name told ahead -/
theorem r_old {cnt : Nat → Nat} {M : SM} {y : Nat × Nat} {sf : SF} {k : Nat} (hn : 30000 ≤ n) (hk : k < 3) (hLb : L ≤ 2000) (hT : RTk c L S) (hB : Beg c L sd cnt M y S) (hsf : sf = none → M.2.2 = none) (hWR : y.1 = 0 → WR c L sf S) (hSb : y.1 = 0 → SFb sf y.2) : Ok (E_X12_known n S (nI k)) (fun r => Df XSm S r.2 ∧ Beg c L sd cnt M (tk (tkK c L) 20 y) r.2 ∧ ((tk (tkK c L) 20 y).1 = 0 → WR c L (orF sf (cOld (tkV c L) M.1 k y.2)) r.2 ∧ SFb (orF sf (cOld (tkV c L) M.1 k y.2)) (tk (tkK c L) 20 y).2 ∧ (sf = none → (∀ m, oldN (tkV c L) M.1 k y.2 = some m → r.1 = nI m ∧ m < cnt k) ∧ (oldN (tkV c L) M.1 k y.2 = none → r.1 = -1)))) := by
  obtain ⟨h1, h2, h3, h4, h5, h6, h7, h8⟩ := hB
  refine (r_known (n := n) (T := M.1) (cnt := cnt) hn hk hT h1 h2 hLb h4 h5 h7 (fun z => ⟨hWR z, hSb z⟩) (fun hM => h8 (hsf hM))).mono (fun r hr => ?_)
  obtain ⟨d1, y1, w1⟩ := hr
  refine ⟨d1, Beg.sm ⟨h1, h2, h3, h4, h5, h6, h7, h8⟩ d1 y1 (tk_w h2 (by decide)), fun z => ?_⟩
  obtain ⟨sf', g1, g2, g3⟩ := w1 z
  have e := sf_or g2 (fun hz => (g3 hz).1)
  rw [← e]
  refine ⟨g1, ?_, fun hz => (g3 hz).2⟩
  rw [e]
  obtain ⟨a1, a2, a3, a4⟩ := tk_0 z
  rw [a4]
  exact (hSb a1).or (Nat.le_succ _) (SFb_old (Nat.lt_succ_self _))
/-- a number -/
theorem r_num {cnt : Nat → Nat} {M : SM} {y : Nat × Nat} {sf : SF} {lo hi : Nat} (hLb : L ≤ 2000) (hlo : lo < 10000) (hhi : hi < 10000) (hT : RTk c L S) (hB : Beg c L sd cnt M y S) (hWR : y.1 = 0 → WR c L sf S) (hSb : y.1 = 0 → SFb sf y.2) : Ok (E_X12_bounded n S (nI lo) (nI hi)) (fun r => Df XSm S r.2 ∧ Beg c L sd cnt M (tk (tkK c L) 21 y) r.2 ∧ ((tk (tkK c L) 21 y).1 = 0 → r.1 = nI (tkV c L y.2) ∧ WR c L (orF sf (cIn (tkV c L) lo hi y.2)) r.2 ∧ SFb (orF sf (cIn (tkV c L) lo hi y.2)) (tk (tkK c L) 21 y).2) ∧ ∃ u, u < 10000 ∧ r.1 = nI u) := by
  have hB' := hB
  obtain ⟨h1, h2, h3, h4, h5, h6, h7, h8⟩ := hB
  refine (r_bounded (n := n) (sf := sf) hT h1 h2 hlo hhi (fun z => ⟨hWR z, hSb z⟩) hLb).mono (fun r hr => ?_)
  obtain ⟨d1, y1, w1, u1⟩ := hr
  refine ⟨d1, hB'.sm d1 y1 (tk_w h2 (by decide)), fun z => ?_, u1⟩
  obtain ⟨g1, g2⟩ := w1 z
  refine ⟨g1, g2, ?_⟩
  obtain ⟨a1, a2, a3, a4⟩ := tk_0 z
  rw [a4]
  exact (hSb a1).or (Nat.le_succ _) (SFb_in (Nat.lt_succ_self _))
/-- a place -/
theorem r_tell0 {Y : SY} {M : SM} (hn : 30000 ≤ n) (hLb : L ≤ 2000) (hT : RTk c L S) (hsd : sd < 2) (h : RRt c L sd Y M S) (h0 : Y.1.1 = 0) (hk : tkK c L Y.1.2 = 0) :
    Ok ((E_X12_next n S (0 : Int32)).bind fun v10 => (E_X12_named n v10.2 ).bind fun v11 => (E_X12_comes n v11.2 (0 : Int32)).bind fun S13 => (E_X12_notes n S13 v11.1 (0 : Int32) v10.1).bind fun S15 => some S15) (fun S' => D2 (XTs sd 0 (Y.2.1 0) (nmN Y.2.1)) YNo S S' ∧ RRt c L sd (syT (tkK c L) (tkV c L) Y) (seT (tkK c L) (tkV c L) Y.2.1 Y.1.2 M) S') := by
  obtain ⟨⟨w1, S1⟩, f1, d1, b1, g1, wr1, sb1⟩ := r_beg (n := n) (k := 0) h h0 hT hk (by decide) hsd
  dsimp only at d1 b1 g1 wr1 sb1
  apply Ok.step (show E_X12_next n S (0 : Int32) = some (w1, S1) from f1)
  have hT1 := hT.fl d1
  obtain ⟨⟨w2, S2⟩, f2, d2, b2, ⟨t, t1, t2, t3⟩, g2⟩ := r_new (n := n) (sf := M.2.2) hn hLb hT1 b1 (fun z => z) (fun _ => wr1) (fun _ => sb1)
  dsimp only at d2 b2 t2 g2
  subst t2
  apply Ok.step f2
  have hT2 := hT1.sm d2
  obtain ⟨S3, f3, d3, y3, c3, e3⟩ := r_comes (n := n) (k := 0) (m := Y.2.1 0) (by decide) hsd hT2 b2.1 b2.2.1 b2.2.2.1 (b2.2.2.2.2.2.1 0 (by decide))
  apply Ok.step (show E_X12_comes n S2 (0 : Int32) = some S3 from f3)
  have hw3 := tk_w (k := 22) b2.2.1 (by decide)
  have etY : tY (tkK c L) (tkV c L) 0 (Y.2.1 0) Y.1 = tk (tkK c L) 22 (tk (tkK c L) 20 (begY (tkK c L) 0 (Y.2.1 0) Y.1)) := rfl
  rw [← etY] at y3 hw3 c3
  have hwY := h.2.1
  have hT3 : RTk c L S3 := hT2.d2 (D2.of (Y := YN) d3) (fun a j h1 h2 => by
    simp only [XCo, XSm, Bool.or_eq_false_iff, Bool.and_eq_false_iff, beq_eq_false_iff_ne]; omega) rfl
  have e20 : S3.1 95 20 = nI (nmN Y.2.1) := by rw [d3.2 _ _ rfl]; exact b2.2.2.2.1
  have suc : (tY (tkK c L) (tkV c L) 0 (Y.2.1 0) Y.1).1 = 0 → Y.2.1 0 ≠ cmx 0 ∧ begY (tkK c L) 0 (Y.2.1 0) Y.1 = (0, Y.1.2 + 1) ∧ tkK c L (Y.1.2 + 1) = 20 ∧ (∀ i, i < Y.1.2 + 1 → tkK c L i ≠ 35) ∧ (tk (tkK c L) 20 (begY (tkK c L) 0 (Y.2.1 0) Y.1)).1 = 0 := fun z => by
    obtain ⟨t1, t2, t3, t4, t5, t6⟩ := tY_lt hwY (by decide) z
    have eb : begY (tkK c L) 0 (Y.2.1 0) Y.1 = (0, Y.1.2 + 1) := by unfold begY; rw [if_neg t2]; exact t3
    rw [t3] at t4
    obtain ⟨a1, a2, a3, a4⟩ := tk_0 (show (tk (tkK c L) 20 (0, Y.1.2 + 1)).1 = 0 from t4)
    refine ⟨t2, eb, a2, ?_, ?_⟩
    · have := b1.2.1.2.2
      rw [eb] at this
      exact this
    · rw [eb]; exact t4
  have hcm := (h.2.2.2 h0).1
  obtain ⟨S4, f4, d4, n4, n4'⟩ := r_notes (n := n) (j := t) (s := 0) (w := w1) (nn := nmN Y.2.1) hT3 y3 hw3.1 t1 e20 (fun z => by
    obtain ⟨s1, s2, s3, s4, s5⟩ := suc z
    have et := t3 (by rw [s2])
    rw [s2] at et
    subst et
    exact ⟨nmN_lt hcm (k := 0) rfl s1, s4, s3⟩)
  apply Ok.step (show E_X12_notes n S3 (nI t) (0 : Int32) w1 = some S4 from f4)
  have dA : D2 (XTs sd 0 (Y.2.1 0) (nmN Y.2.1)) YNo S S4 := (((D2.fl d1).trans (D2.sm d2)).trans (D2.co d3)).trans (D2.no rfl d4)
  refine Ok.ret ⟨dA, h.fin h0 hk (by decide) hsd dA ?_ (fun z => ?_)⟩
  · exact y3.fr (fun j hj => d4.2 _ _ (by simp only [XNo, Bool.or_eq_false_iff, Bool.and_eq_false_iff, beq_eq_false_iff_ne]; omega))
  · obtain ⟨s1, s2, s3, s4, s5⟩ := suc z
    have et := t3 (by rw [s2])
    rw [s2] at et
    subst et
    obtain ⟨n1, n2, n3, n5, n6⟩ := n4 z
    obtain ⟨gw, gs⟩ := g2 s5
    have n0 : ∀ a j, a ≠ 104 → a ≠ 105 → (a ≠ 95 ∨ j ≠ 20) → S4.1 a j = S3.1 a j := fun a j h1 h2 h3 => d4.2 _ _ (by simp only [XNo, Bool.or_eq_false_iff, Bool.and_eq_false_iff, beq_eq_false_iff_ne]; omega)
    refine ⟨?_, fun _ => ⟨n1, n2, n3, ?_, fun i hi => ?_⟩, fun hn => (by cases hn), ?_, ?_, fun _ _ q hq hq0 => ?_⟩
    · rw [n0 _ _ (by omega) (by omega) (by omega)]; exact c3 z
    · rw [n5]; exact g1 s1
    · rw [n6 i hi, d3.1, d2.1, d1.1]
    · have : semF (tkK c L) (tkV c L) M.1 0 Y.1.2 = cNew (tkV c L) M.1 (Y.1.2 + 1) := rfl
      rw [this]
      rw [s2] at gw
      exact gw.fr (fun j hj => by rw [n0 _ _ (by omega) (by omega) (by omega)]; exact e3 j hj)
    · have : semF (tkK c L) (tkV c L) M.1 0 Y.1.2 = cNew (tkV c L) M.1 (Y.1.2 + 1) := rfl
      rw [this]
      rw [s2] at gs
      exact gs.mono (by rw [etY, s2]; exact tk_le _)
    · have := TW_ok q hq
      omega
end RTF
