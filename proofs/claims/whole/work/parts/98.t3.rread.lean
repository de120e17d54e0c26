/-! ===== the reference reads ===== -/
def XRd (sd a j : Nat) : Bool := XTe sd a j || ((a == 95 && ((j == 2 || j == 4) || (j == 10 || (j == 17 || j == 19)))) || decide (97 ≤ a ∧ a ≤ 100))
def XRd1 (sd a j : Nat) : Bool := XRd sd a j || ((a == 95 && (j == 18 || j == 62)) || a == 155)
def YRd (a : Nat) : Bool := a == 101 || a == 103
def sm0 : SM := ([], fun _ _ => 0, none)
set_option maxRecDepth 100000 in
theorem bv_i8 {x : Nat} (h : x < 256) : (bv x).toInt8.toInt32 = bv x := by
  have h1 : ∀ k : Fin 256, (bv k.val).toInt8.toInt32 = bv k.val := by decide
  exact h1 ⟨x, h⟩
section RRD
variable {n L sd : Nat} {c : Nat → Nat} {S S' : ST}
theorem RRt.fr {Y : SY} {M : SM} (h : RRt c L sd Y M S) (e2 : S'.2 = S.2) (e : ∀ a j, a ≠ 155 → (a ≠ 95 ∨ (j ≠ 17 ∧ j ≠ 18 ∧ j ≠ 62)) → S'.1 a j = S.1 a j) : RRt c L sd Y M S' := by
  obtain ⟨hy0, hw, h19, hd⟩ := h
  refine ⟨hy0.fr (fun j hj => e _ _ (by omega) (by omega)), hw, by rw [e _ _ (by omega) (by omega)]; exact h19, fun z => ?_⟩
  obtain ⟨hcm, hcr, h20, ⟨lt, cb, l1, l2, l3, l4, l5, l6, l7, l8⟩, hwr, hsb, htb⟩ := hd z
  refine ⟨hcm, ⟨fun k hk => by rw [e _ _ (by omega) (by omega)]; exact hcr.1 k hk, by rw [e _ _ (by omega) (by omega)]; exact hcr.2.1, fun s hs => by rw [e _ _ (by omega) (by omega)]; exact hcr.2.2 s hs⟩, by rw [e _ _ (by omega) (by omega)]; exact h20, ⟨lt, cb, by rw [e _ _ (by omega) (by omega)]; exact l1, by rw [e _ _ (by omega) (by omega)]; exact l2, by rw [e _ _ (by omega) (by omega)]; exact l3, l4, l5, l6, l7, fun s hs => ?_⟩, hwr.fr (fun j hj => e _ _ (by omega) (by omega)), hsb, fun hM => ?_⟩
  · obtain ⟨g1, g2⟩ := l8 s hs
    refine ⟨g1, fun i hi => ?_⟩
    obtain ⟨l0, c0, b1, b2, b3, b4, b5⟩ := g2 i hi
    exact ⟨l0, c0, b1, b2, b3, b4, b5.fr ⟨e _ _ (by omega) (by omega), e _ _ (by omega) (by omega)⟩ (fun a j h1 h2 h3 => e _ _ (by omega) (by omega)) (fun a j h1 h2 => e _ _ (by omega) (by omega))⟩
  · obtain ⟨t1, t2, t3, t4⟩ := htb hM
    refine ⟨t1, t2.fr (by rw [e2]) (fun a j ha => e _ _ (by omega) (by omega)), t3, fun q hq j hj => ?_⟩
    have := TW_ok q hq
    rw [e _ _ (by omega) (by omega)]
    exact t4 q hq j hj
set_option maxRecDepth 100000 in
theorem r_readE (hn : 30000 ≤ n) (hsd : sd < 2) (hTB : TB c L 96 S) (h2 : S.1 95 2 = nI L) (h18 : S.1 95 18 = nI (1 - sd)) (hK : KWr S) :
    Ok (E_X12_read n S) (fun r => ∃ YF M, YF = syR (tkK c L) (tkV c L) 402 sy0 ∧ (YF.1.1 = 0 → M = smR (tkK c L) (tkV c L) 402 sy0 sm0) ∧ r.2.1 95 2 = 0 ∧
      ((YF.1.1 ≠ 0 ∧ r.1 = nI YF.1.1 ∧ r.2.1 95 17 = nI (tkS c L YF.1.2) ∧ D2 (XRd sd) YRd S r.2) ∨
       (YF.1.1 = 0 ∧ (∃ x, M.2.2 = some x ∧ r.1 = nI x.1 ∧ r.2.1 95 17 = nI (tkS c L x.2) ∧ x.2 < YF.1.2 ∧ x.1 ≠ 0 ∧ x.1 < 10) ∧ D2 (XRd sd) YRd S r.2) ∨
       (YF.1.1 = 0 ∧ M.2.2 = none ∧ r.1 = 0 ∧ r.2.1 95 17 = -1 ∧ r.2.1 95 18 = nI sd ∧ r.2.1 95 62 = 0 ∧ (∀ s, s < 3 → r.2.1 155 s = -1) ∧ RRt c L sd YF M r.2 ∧ D2 (XRd1 sd) YRd S r.2))) := by
  have hLb := hTB.1
  have xT : ∀ a j, (a = 97 ∨ (a = 95 ∧ (j = 2 ∨ j = 4 ∨ j = 10 ∨ j = 17 ∨ j = 19))) → XRd sd a j = true := fun a j h => by
    rcases h with h | ⟨h, h | h | h | h | h⟩
    all_goals
      subst h
      try subst a
      simp [XRd]
  have xE : ∀ a j, XTe sd a j = true → XRd sd a j = true := fun a j h => by simp only [XRd, h, Bool.true_or]
  have teD : ∀ {A B : ST}, D2 (XTe sd) YNo A B → D2 (XRd sd) YRd A B := fun d => d.mono (fun a j hx => by
    simp only [XRd, Bool.or_eq_false_iff] at hx; exact hx.1) (fun a hx => by
    simp only [YRd, Bool.or_eq_false_iff] at hx; exact hx.2)
  unfold E_X12_read
  apply Ok.letsU
  generalize eS1 : upI S 95 4 (S.1 95 2) = S1
  have d1 : D2 (XRd sd) YRd S S1 := by rw [← eS1]; exact (D2.refl _ _ _).up (xT _ _ (by omega))
  have e14 : S1.1 95 4 = nI L := by rw [← eS1, upI_at, if_pos ⟨rfl, rfl⟩, h2]
  have e196 : ∀ k, S1.1 96 k = S.1 96 k := fun k => by rw [← eS1, upI_at, if_neg (by omega)]
  refine bindL (fun i (s : Int32 × ST) => s.1 = nI i ∧ D2 (XRd sd) YRd S s.2 ∧ s.2.2 = S.2 ∧ (∀ a j, a ≠ 97 → s.2.1 a j = S1.1 a j) ∧ ∀ k, k < i → s.2.1 97 k = bv (c k)) (fun s => D2 (XRd sd) YRd S s ∧ s.2 = S.2 ∧ (∀ a j, a ≠ 97 → s.1 a j = S1.1 a j) ∧ ∀ k, k < L → s.1 97 k = bv (c k)) 0 L (Nat.zero_le _) (by omega) ⟨rfl, d1, by rw [← eS1]; rfl, fun _ _ _ => rfl, fun k hk => absurd hk (Nat.not_lt_zero k)⟩ ?_ ?_ ?_
  · rintro i ⟨u, s⟩ _ hi ⟨rfl, q1, q2, q3, q4⟩
    dsimp only at q1 q2 q3 q4 ⊢
    refine Ok.ifF (by rw [q3 _ _ (by omega), e14]; exact nI_ge hi (by omega)) ?_
    apply Ok.step (rd_nI (by omega) (by decide))
    obtain ⟨b1, b2⟩ := hTB.2 i hi
    rw [q3 96 _ (by omega), e196, b2, bv_i8 b1]
    apply Ok.step (wr_nI (by omega) (by decide))
    refine Ok.inl ⟨nI_1 _, q1.up (xT _ _ (by omega)), q2, fun a j ha => ?_, fun k hk => ?_⟩
    · dsimp only; rw [upI_at, if_neg (by omega)]; exact q3 a j ha
    · dsimp only; rw [upI_at]
      by_cases e : k = i
      · rw [if_pos ⟨rfl, e⟩, e]
      · rw [if_neg (fun z => e z.2)]; exact q4 k (by omega)
  · rintro ⟨u, s⟩ ⟨rfl, q1, q2, q3, q4⟩
    dsimp only at q1 q2 q3 q4 ⊢
    exact Ok.ifT (by rw [q3 _ _ (by omega), e14]; exact nI_le (Nat.le_refl _) (by omega)) (Ok.inr ⟨q1, q2, q3, q4⟩)
  rintro S2 ⟨d2, l2, o2, t2⟩
  apply Ok.letsU
  generalize eS6 : upI S2 95 2 (0 : Int32) = S6
  have d6 : D2 (XRd sd) YRd S S6 := by rw [← eS6]; exact d2.up (xT _ _ (by omega))
  have tb6 : TB c L 97 S6 := ⟨hLb, fun k hk => ⟨(hTB.2 k hk).1, by rw [← eS6, upI_at, if_neg (by omega)]; exact t2 k hk⟩⟩
  obtain ⟨S8, f8, d8, hT8⟩ := r_cut (n := n) hn tb6 (by rw [← eS6, upI_at, if_neg (by omega), o2 _ _ (by omega)]; exact e14) (fun j hj => by rw [← eS6]; show S2.2 102 j = _; rw [l2]; exact hK j hj)
  apply Ok.step f8
  have d8' : D2 (XRd sd) YRd S S8 := d6.trans (d8.mono (fun a j hx => by
    simp only [XRd, Bool.or_eq_false_iff, Bool.and_eq_false_iff, beq_eq_false_iff_ne, decide_eq_false_iff_not] at hx
    simp only [XRc, Bool.or_eq_false_iff, Bool.and_eq_false_iff, beq_eq_false_iff_ne]
    omega) (fun a hx => by
    simp only [YRd, Bool.or_eq_false_iff] at hx; exact hx.1))
  apply Ok.letsU
  apply Ok.letsU
  apply Ok.letsU
  apply Ok.letsU
  apply Ok.letsU
  apply Ok.letsU
  have q18 : S8.1 95 18 = nI (1 - sd) := by
    rw [d8.2 _ _ rfl, ← eS6, upI_at, if_neg (by omega), o2 _ _ (by omega), ← eS1, upI_at, if_neg (by omega)]; exact h18
  have q2z : S8.1 95 2 = 0 := by rw [d8.2 _ _ rfl, ← eS6, upI_at, if_pos ⟨rfl, rfl⟩]
  generalize eS14 : upI (upI (upI (upI (upI (upI S8 95 11 (0 : Int32)) 95 12 (0 : Int32)) 95 13 (0 : Int32)) 95 15 (0 : Int32)) 95 19 ((1 : Int32) - ((upI (upI (upI (upI S8 95 11 (0 : Int32)) 95 12 (0 : Int32)) 95 13 (0 : Int32)) 95 15 (0 : Int32)).1 95 18))) 95 20 (0 : Int32) = S14
  have esd : (1 : Int32) - nI (1 - sd) = nI sd := by
    have : sd = 0 ∨ sd = 1 := by omega
    rcases this with h | h
    · subst h; decide
    · subst h; decide
  have a18 : (upI (upI (upI (upI S8 95 11 (0 : Int32)) 95 12 (0 : Int32)) 95 13 (0 : Int32)) 95 15 (0 : Int32)).1 95 18 = nI (1 - sd) := by
    rw [upI_at, if_neg (by omega), upI_at, if_neg (by omega), upI_at, if_neg (by omega), upI_at, if_neg (by omega)]; exact q18
  rw [a18, esd] at eS14
  have xc : ∀ j, (j = 11 ∨ j = 12 ∨ j = 13 ∨ j = 15 ∨ j = 20 ∨ j = 46 ∨ j = 53) → XRd sd 95 j = true := fun j h => by
    rcases h with h | h | h | h | h | h | h
    all_goals
      subst h
      simp [XRd, XTe]
  have d14 : D2 (XRd sd) YRd S S14 := by
    rw [← eS14]
    exact (((((d8'.up (xc _ (by omega))).up (xc _ (by omega))).up (xc _ (by omega))).up (xc _ (by omega))).up (xT _ _ (by omega))).up (xc _ (by omega))
  have v11 : S14.1 95 11 = 0 := by rw [← eS14]; simp [upI_at]
  have v12 : S14.1 95 12 = 0 := by rw [← eS14]; simp [upI_at]
  have v13 : S14.1 95 13 = 0 := by rw [← eS14]; simp [upI_at]
  have v15 : S14.1 95 15 = 0 := by rw [← eS14]; simp [upI_at]
  have v19 : S14.1 95 19 = nI sd := by rw [← eS14]; simp [upI_at]
  have v20 : S14.1 95 20 = 0 := by rw [← eS14]; simp [upI_at]
  have o14 : ∀ a j, (a ≠ 95 ∨ (j ≠ 11 ∧ j ≠ 12 ∧ j ≠ 13 ∧ j ≠ 15 ∧ j ≠ 19 ∧ j ≠ 20)) → S14.1 a j = S8.1 a j := fun a j h => by
    rw [← eS14, upI_at, if_neg (by omega), upI_at, if_neg (by omega), upI_at, if_neg (by omega), upI_at, if_neg (by omega), upI_at, if_neg (by omega), upI_at, if_neg (by omega)]
  have l14 : S14.2 = S8.2 := by rw [← eS14]; rfl
  refine bindL (fun i (s : Int32 × ST) => s.1 = nI i ∧ s.2.2 = S14.2 ∧ (∀ a j, a ≠ 106 ∨ j < 8 * sd ∨ 8 * sd + 8 ≤ j → s.2.1 a j = S14.1 a j) ∧ ∀ k, k < i → s.2.1 106 (8 * sd + k) = 0) (fun s => s.2 = S14.2 ∧ (∀ a j, a ≠ 106 ∨ j < 8 * sd ∨ 8 * sd + 8 ≤ j → s.1 a j = S14.1 a j) ∧ ∀ k, k < 8 → s.1 106 (8 * sd + k) = 0) 0 8 (by decide) (by omega) ⟨rfl, rfl, fun _ _ _ => rfl, fun k hk => absurd hk (Nat.not_lt_zero k)⟩ ?_ ?_ ?_
  · rintro i ⟨u, s⟩ _ hi ⟨rfl, q2, q3, q4⟩
    dsimp only at q2 q3 q4 ⊢
    refine Ok.ifF (nI_ge (b := 8) hi (by decide)) ?_
    rw [q3 95 19 (by omega), v19, show (8 : Int32) * nI sd + nI i = nI (8 * sd + i) by rw [show (8 : Int32) = nI 8 from rfl, nI_mulN, nI_add]]
    apply Ok.step (wr_nI (by omega) (by decide))
    refine Ok.inl ⟨nI_1 _, q2, fun a j ha => ?_, fun k hk => ?_⟩
    · dsimp only; rw [upI_at, if_neg (by omega)]; exact q3 a j ha
    · dsimp only; rw [upI_at]
      by_cases e : k = i
      · rw [if_pos ⟨rfl, by omega⟩]
      · rw [if_neg (fun z => e (by omega))]; exact q4 k (by omega)
  · rintro ⟨u, s⟩ ⟨rfl, q2, q3, q4⟩
    dsimp only at q2 q3 q4 ⊢
    exact Ok.ifT (by decide) (Ok.inr ⟨q2, q3, q4⟩)
  rintro S15 ⟨l15, o15, z15⟩
  have d15 : D2 (XRd sd) YRd S S15 := d14.trans ⟨fun a _ => congrFun l15 a, fun a j hx => o15 a j (by
    simp only [XRd, XTe, Bool.or_eq_false_iff, Bool.and_eq_false_iff, beq_eq_false_iff_ne, decide_eq_false_iff_not] at hx
    omega)⟩
  rw [o15 95 19 (by omega), v19]
  apply Ok.step (wr_nI (by omega) (by decide))
  generalize eS18 : upI S15 107 sd (0 : Int32) = S18
  have x107 : XRd sd 107 sd = true := xE _ _ (by simp [XTe])
  have d18 : D2 (XRd sd) YRd S S18 := by rw [← eS18]; exact d15.up x107
  have w19 : S18.1 95 19 = nI sd := by rw [← eS18, upI_at, if_neg (by omega), o15 95 19 (by omega), v19]
  rw [w19, show (2 : Int32) * nI sd = nI (2 * sd) by rw [show (2 : Int32) = nI 2 from rfl, nI_mulN]]
  apply Ok.step (wr_nI (by omega) (by decide))
  generalize eS19 : upI S18 125 (2 * sd) (0 : Int32) = S19
  have w19' : S19.1 95 19 = nI sd := by rw [← eS19, upI_at, if_neg (by omega), w19]
  rw [w19', show (2 : Int32) * nI sd + (1 : Int32) = nI (2 * sd + 1) by rw [show (2 : Int32) = nI 2 from rfl, nI_mulN, nI_1]]
  apply Ok.step (wr_nI (by omega) (by decide))
  generalize eS20 : upI S19 125 (2 * sd + 1) (0 : Int32) = S20
  have x125 : XRd sd 125 (2 * sd) = true := xE _ _ (by simp [XTe])
  have x125' : XRd sd 125 (2 * sd + 1) = true := xE _ _ (by simp [XTe])
  have d20 : D2 (XRd sd) YRd S S20 := by rw [← eS20, ← eS19]; exact (d18.up x125).up x125'
  have w19'' : S20.1 95 19 = nI sd := by rw [← eS20, upI_at, if_neg (by omega), w19']
  apply Ok.letsU
  apply Ok.letsU
  have w19a : (upI S20 95 46 ((150 : Int32) * S20.1 95 19)).1 95 19 = nI sd := by rw [upI_at, if_neg (by omega), w19'']
  rw [w19a, w19'', show (150 : Int32) * nI sd = nI (150 * sd) by rw [show (150 : Int32) = nI 150 from rfl, nI_mulN], show (420 : Int32) * nI sd = nI (420 * sd) by rw [show (420 : Int32) = nI 420 from rfl, nI_mulN]]
  generalize eS22 : upI (upI S20 95 46 (nI (150 * sd))) 95 53 (nI (420 * sd)) = S22
  have d22 : D2 (XRd sd) YRd S S22 := by rw [← eS22]; exact (d20.up (xc _ (by omega))).up (xc _ (by omega))
  have o22 : ∀ a j, (a ≠ 95 ∨ (j ≠ 46 ∧ j ≠ 53)) → (a ≠ 107 ∨ j ≠ sd) → (a ≠ 125 ∨ (j ≠ 2 * sd ∧ j ≠ 2 * sd + 1)) → S22.1 a j = S15.1 a j := fun a j h1 h2 h3 => by
    rw [← eS22, upI_at, if_neg (by omega), upI_at, if_neg (by omega), ← eS20, upI_at, if_neg (by omega), ← eS19, upI_at, if_neg (by omega), ← eS18, upI_at, if_neg (by omega)]
  have l22 : S22.2 = S8.2 := by rw [← eS22, ← eS20, ← eS19, ← eS18]; show S15.2 = _; rw [l15, l14]
  have p22 : ∀ j, (j ≠ 46 ∧ j ≠ 53) → S22.1 95 j = S14.1 95 j := fun j h => by rw [o22 _ _ (by omega) (by omega) (by omega), o15 _ _ (by omega)]
  have c125 : ∀ s, s < 2 → S22.1 125 (2 * sd + s) = 0 := fun s hs => by
    rw [← eS22, upI_at, if_neg (by omega), upI_at, if_neg (by omega), ← eS20, upI_at]
    by_cases e : s = 1
    · rw [if_pos ⟨rfl, by omega⟩]
    · rw [if_neg (by omega), ← eS19, upI_at, if_pos ⟨rfl, by omega⟩]
  have c107 : S22.1 107 sd = 0 := by
    rw [← eS22, upI_at, if_neg (by omega), upI_at, if_neg (by omega), ← eS20, upI_at, if_neg (by omega), ← eS19, upI_at, if_neg (by omega), ← eS18, upI_at, if_pos ⟨rfl, rfl⟩]
  have hT22 : RTk c L S22 := fun j h1 h3 => by
    obtain ⟨b1, b2, b3, b4⟩ := hT8 j h1 h3
    have o : ∀ a, 98 ≤ a → a ≤ 100 → S22.1 a j = S8.1 a j := fun a h1 h2 => by rw [o22 _ _ (by omega) (by omega) (by omega), o15 _ _ (by omega), o14 _ _ (by omega)]
    exact ⟨by rw [o _ (by omega) (by omega)]; exact b1, by rw [o _ (by omega) (by omega)]; exact b2, fun z => by rw [o _ (by omega) (by omega)]; exact b3 z, fun z => by rw [l22]; exact b4 z⟩
  have h22 : RRt c L sd sy0 sm0 S22 := by
    refine ⟨⟨?_, fun _ => ?_, fun z => absurd rfl z⟩, ⟨Nat.zero_le _, Nat.zero_le _, fun i hi => absurd hi (Nat.not_lt_zero i)⟩, ?_, fun _ => ⟨fun k hk => Nat.zero_le _, ⟨fun k hk => ?_, ?_, fun s hs => ?_⟩, ?_, ⟨150 * sd, 420 * sd, ?_, ?_, ?_, Nat.le_refl _, ?_, Nat.le_refl _, Nat.le_refl _, fun s hs => ⟨rfl, fun i hi => absurd hi (Nat.not_lt_zero i)⟩⟩, ⟨fun _ => ?_, (fun x hx => by cases hx)⟩, (fun x hx => by cases hx), fun _ => ⟨rfl, fun j hj => absurd hj (Nat.not_lt_zero j), ⟨(fun e he => by cases he), fun i j hi => absurd hi (Nat.not_lt_zero i)⟩, fun q hq j hj => absurd hj (Nat.not_lt_zero j)⟩⟩⟩
    · rw [p22 _ (by omega), v13]; rfl
    · rw [p22 _ (by omega), v11]; rfl
    · rw [p22 _ (by omega), v19]
    · rw [o22 _ _ (by omega) (by omega) (by omega)]; exact z15 k hk
    · exact c107
    · exact c125 s hs
    · rw [p22 _ (by omega), v20]; rfl
    · rw [p22 _ (by omega), v12]
    · rw [← eS22, upI_at, if_neg (by omega), upI_at, if_pos ⟨rfl, rfl⟩]
    · rw [← eS22, upI_at, if_pos ⟨rfl, rfl⟩]
    · show 3 * (150 * sd) ≤ 450 * sd + 0
      omega
    · rw [p22 _ (by omega), v15]
  refine r_tells (sd := sd) (M0 := sm0) hn hLb hT22 hsd h22 (fun S23 M d23 hR hM => ?_)
  obtain ⟨YF, hYF⟩ : ∃ YF, YF = syR (tkK c L) (tkV c L) 402 sy0 := ⟨_, rfl⟩
  rw [← hYF] at hR hM
  have d23' := d22.trans (teD d23)
  have e2z : S23.1 95 2 = 0 := by
    rw [d23.2 _ _ (by simp [XTe, lawJ]), p22 _ (by omega), o14 _ _ (by omega), q2z]
  have dU : ∀ u : Int32, D2 (XRd sd) YRd S (upI S23 95 17 u) := fun u => d23'.up (xT _ _ (by omega))
  have hw1 := hR.2.1.1
  apply Ok.jnU
  have w13 : ∀ u : Int32, (upI S23 95 17 u).1 95 13 = nI YF.1.1 := fun u => by rw [upI_at, if_neg (by omega)]; exact hR.1.1
  have w15 : ∀ u : Int32, (upI S23 95 17 u).1 95 15 = S23.1 95 15 := fun u => by rw [upI_at, if_neg (by omega)]
  by_cases c0 : YF.1.1 = 0
  case neg =>
    refine Ok.ifF (by rw [hR.1.1]; exact nI_nle (by omega) (by omega)) ?_
    dsimp only
    apply Ok.letsU
    refine Ok.ifF (by rw [w13]; exact nI_nle (by omega) (by omega)) (Ok.ret ⟨YF, M, hYF, hM, ?_, Or.inl ⟨c0, w13 (S23.1 95 14), ?_, dU (S23.1 95 14)⟩⟩)
    · dsimp only; rw [upI_at, if_neg (by omega)]; exact e2z
    · dsimp only; rw [upI_at, if_pos ⟨rfl, rfl⟩]; exact (hR.1.2.2 c0).1
  obtain ⟨hcm, hcr, h20, hlw, hwr, hsb, htb⟩ := hR.2.2.2 c0
  refine Ok.ifT (by rw [hR.1.1, c0]; decide) ?_
  cases hsf : M.2.2 with
  | some x =>
    obtain ⟨x1, x2, x3, x4⟩ := hwr.2 x hsf
    refine Ok.ifF (by rw [x1]; exact nI_nle (by omega) (by omega)) ?_
    dsimp only
    apply Ok.letsU
    refine Ok.ifT (by rw [w13, c0]; decide) (Ok.ifF (by rw [w15, x1]; exact nI_nle (by omega) (by omega)) (Ok.ret ⟨YF, M, hYF, hM, ?_, Or.inr (Or.inl ⟨c0, ⟨x, hsf, ?_, ?_, hsb x hsf, x3, x4⟩, dU (S23.1 95 16)⟩)⟩))
    · dsimp only; rw [upI_at, if_neg (by omega)]; exact e2z
    · dsimp only; rw [w15]; exact x1
    · dsimp only; rw [upI_at, if_pos ⟨rfl, rfl⟩]; exact x2
  | none =>
    have x1 := hwr.1 hsf
    refine Ok.ifT (by rw [x1]; decide) ?_
    dsimp only
    apply Ok.letsU
    refine Ok.ifT (by rw [w13, c0]; decide) (Ok.ifT (by rw [w15, x1]; decide) ?_)
    apply Ok.letsU
    apply Ok.letsU
    have w19b : (upI S23 95 17 (-1 : Int32)).1 95 19 = nI sd := by rw [upI_at, if_neg (by omega)]; exact hR.2.2.1
    rw [w19b]
    generalize eS34 : upI (upI (upI S23 95 17 (-1 : Int32)) 95 18 (nI sd)) 95 62 (0 : Int32) = S34
    have dm : ∀ {A B : ST}, D2 (XRd sd) YRd A B → D2 (XRd1 sd) YRd A B := fun d => d.mono (fun a j hx => by
      simp only [XRd1, Bool.or_eq_false_iff] at hx; exact hx.1) (fun _ h => h)
    have x18 : XRd1 sd 95 18 = true := by simp [XRd1]
    have x62 : XRd1 sd 95 62 = true := by simp [XRd1]
    have d34 : D2 (XRd1 sd) YRd S S34 := by rw [← eS34]; exact ((dm (dU (-1))).up x18).up x62
    have o34 : ∀ a j, (a ≠ 95 ∨ (j ≠ 17 ∧ j ≠ 18 ∧ j ≠ 62)) → S34.1 a j = S23.1 a j := fun a j h => by
      rw [← eS34, upI_at, if_neg (by omega), upI_at, if_neg (by omega), upI_at, if_neg (by omega)]
    have v17 : S34.1 95 17 = -1 := by rw [← eS34, upI_at, if_neg (by omega), upI_at, if_neg (by omega), upI_at, if_pos ⟨rfl, rfl⟩]
    have v18 : S34.1 95 18 = nI sd := by rw [← eS34, upI_at, if_neg (by omega), upI_at, if_pos ⟨rfl, rfl⟩]
    have v62 : S34.1 95 62 = 0 := by rw [← eS34, upI_at, if_pos ⟨rfl, rfl⟩]
    refine bindL (fun i (s : Int32 × ST) => s.1 = nI i ∧ s.2.2 = S34.2 ∧ (∀ a j, a ≠ 155 → s.2.1 a j = S34.1 a j) ∧ ∀ k, k < i → s.2.1 155 k = -1) (fun s => s.2 = S34.2 ∧ (∀ a j, a ≠ 155 → s.1 a j = S34.1 a j) ∧ ∀ k, k < 3 → s.1 155 k = -1) 0 3 (by decide) (by omega) ⟨rfl, rfl, fun _ _ _ => rfl, fun k hk => absurd hk (Nat.not_lt_zero k)⟩ ?_ ?_ ?_
    · rintro i ⟨u, s⟩ _ hi ⟨rfl, q2, q3, q4⟩
      dsimp only at q2 q3 q4 ⊢
      refine Ok.ifF (nI_ge (b := 3) hi (by decide)) ?_
      apply Ok.step (wr_nI (by omega) (by decide))
      refine Ok.inl ⟨nI_1 _, q2, fun a j ha => ?_, fun k hk => ?_⟩
      · dsimp only; rw [upI_at, if_neg (by omega)]; exact q3 a j ha
      · dsimp only; rw [upI_at]
        by_cases e : k = i
        · rw [if_pos ⟨rfl, by omega⟩]
        · rw [if_neg (fun z => e (by omega))]; exact q4 k (by omega)
    · rintro ⟨u, s⟩ ⟨rfl, q2, q3, q4⟩
      dsimp only at q2 q3 q4 ⊢
      exact Ok.ifT (by decide) (Ok.inr ⟨q2, q3, q4⟩)
    rintro S35 ⟨l35, o35, z35⟩
    refine Ok.ret ⟨YF, M, hYF, hM, ?_, Or.inr (Or.inr ⟨c0, hsf, rfl, ?_, ?_, ?_, z35, hR.fr ?_ ?_, ?_⟩)⟩
    · dsimp only; rw [o35 _ _ (by omega), o34 _ _ (by omega)]; exact e2z
    · dsimp only; rw [o35 _ _ (by omega)]; exact v17
    · dsimp only; rw [o35 _ _ (by omega)]; exact v18
    · dsimp only; rw [o35 _ _ (by omega)]; exact v62
    · dsimp only; rw [l35, ← eS34]; rfl
    · intro a j h1 h2
      dsimp only
      rw [o35 _ _ h1, o34 _ _ h2]
    · exact d34.trans ⟨fun a _ => congrFun l35 a, fun a j hx => o35 a j (by
        simp only [XRd1, Bool.or_eq_false_iff, beq_eq_false_iff_ne] at hx
        exact hx.2.2)⟩
end RRD
