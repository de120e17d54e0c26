/-! ===== the class: the world is settled, all of it ===== -/
section CSF
variable {W : VW} {V : VL} {w n : Nat} {S S' : ST}
theorem ix24 {a b : Nat} : nI a * (24 : Int32) + nI b = nI (a * 24 + b) := by rw [show (24 : Int32) = nI 24 from rfl, nI_mulN, nI_add]
theorem ix_ne {a b x y : Nat} (hb : b < 24) (hy : y < 24) (h : a ≠ x ∨ b ≠ y) : a * 24 + b ≠ x * 24 + y := by omega
set_option maxRecDepth 100000 in
theorem c_settle (hn : 30000 ≤ n) (hw : w = 22 ∨ w = 47) (hW : WF W) (hC : CTd w (W 0) W S) (hL : CLw V W (w + 13) S) : Ok (E_X10_settle n S w) (fun S' => CW W V w S' ∧ S'.2 = S.2 ∧ ∀ a j, (a < w + 19 ∨ w + 24 < a) → S'.1 a j = S.1 a j) := by
  have hm1 : W 0 1 ≤ 10 := hW.mx (k := 1) (by decide)
  have hm0 : W 0 0 ≤ 6 := hW.mx (k := 0) (by decide)
  obtain ⟨g1, g2, g3, g4, g5⟩ := hC
  unfold E_X10_settle
  apply Ok.letsU
  generalize eS1 : fillS S (w + 22) 144 (0 : Int32) = S1
  have o1 : ∀ a j, a ≠ w + 22 → S1.1 a j = S.1 a j := fun a j h => by
    rw [← eS1]; unfold fillS; rw [setC_ne h]
  have l1 : S1.2 = S.2 := by rw [← eS1]; rfl
  have z1 : ∀ j, j < 144 → S1.1 (w + 22) j = 0 := fun j hj => by
    rw [← eS1]; unfold fillS; rw [setC_eq, if_pos hj]
  have cnt1 : ∀ {s : ST}, (∀ j, s.1 (w + 1) j = S.1 (w + 1) j) → rd (s.1 (w + 1)) 11 (1 : Int32) = some (nI (W 0 1)) := fun h => by
    rw [show (1 : Int32) = nI 1 from rfl, rd_nI (by decide) (by decide), h, g1 1 (by decide)]
  have cnt0 : ∀ {s : ST}, (∀ j, s.1 (w + 1) j = S.1 (w + 1) j) → rd (s.1 (w + 1)) 11 (0 : Int32) = some (nI (W 0 0)) := fun h => by
    rw [show (0 : Int32) = nI 0 from rfl, rd_nI (by decide) (by decide), h, g1 0 (by decide)]
  -- the people are placed
  refine bindL (fun i (s : Int32 × ST) => s.1 = nI i ∧ (i ≠ 0 → 0 < W 0 0) ∧ s.2.2 = S.2 ∧ (∀ a j, a ≠ w + 21 → a ≠ w + 22 → s.2.1 a j = S.1 a j) ∧ (∀ q g, q < 10 → g < 24 → s.2.1 (w + 21) (q * 24 + g) = if q < i then nI (wPl W q g) else S.1 (w + 21) (q * 24 + g)) ∧ (∀ a g, a < 6 → g < 24 → s.2.1 (w + 22) (a * 24 + g) = bs (fun q => decide (wPl W q g = a)) i))
    (fun s => s.2 = S.2 ∧ (∀ a j, a ≠ w + 21 → a ≠ w + 22 → s.1 a j = S.1 a j) ∧ (∀ p h, p < W 0 1 → h < 24 → s.1 (w + 21) (p * 24 + h) = plI W p h) ∧ (∀ a h, a < W 0 0 → h < 24 → s.1 (w + 22) (a * 24 + h) = bs (wStand W nD a h) (W 0 1))) 0 (W 0 1) (Nat.zero_le _) (by omega)
    ⟨rfl, fun z => absurd rfl z, l1, fun a j _ h2 => o1 a j h2, fun q g _ _ => by rw [if_neg (Nat.not_lt_zero q), o1 _ _ (by omega)], fun a g ha hg => by rw [z1 _ (by omega)]; rfl⟩ ?_ ?_ ?_
  · rintro i ⟨u, s⟩ _ hi ⟨rfl, qi, q1, q2, q3, q4⟩
    dsimp only at q1 q2 q3 q4 ⊢
    apply Ok.step (cnt1 (fun j => q2 _ _ (by omega) (by omega)))
    refine Ok.ifF (nI_ge hi (by omega)) ?_
    apply Ok.step (cnt0 (fun j => q2 _ _ (by omega) (by omega)))
    by_cases h0 : W 0 0 = 0
    · refine Ok.ifT (by rw [h0]; decide) (Ok.inr ⟨q1, q2, fun p h hp hh => ?_, fun a h ha _ => absurd ha (by omega)⟩)
      have h4 : W 0 4 = 0 := by
        rcases Nat.eq_zero_or_pos (W 0 4) with q | q
        · exact q
        · have := (hW.2.2.2.2.1 0 q).2.1
          omega
      have hst : stY W (W 0 4) p h = false := by rw [h4]; rfl
      have hraw : S.1 (w + 21) (p * 24 + h) = -nI 2 := by rw [g5 p h (by omega) hh, hst, if_neg (by decide)]
      rw [q3 p h (by omega) hh]
      have hpl : plI W p h = -nI 2 := by unfold plI; rw [if_neg (by omega)]
      rw [hpl]
      rw [if_neg (fun z => by have := qi (by omega); omega), hraw]
    refine Ok.ifF (nI_nle (by omega) (by omega)) ?_
    refine bindL (fun h (s2 : Int32 × ST) => s2.1 = nI h ∧ s2.2.2 = S.2 ∧ (∀ a j, a ≠ w + 21 → a ≠ w + 22 → s2.2.1 a j = S.1 a j) ∧ (∀ q g, q < 10 → g < 24 → s2.2.1 (w + 21) (q * 24 + g) = if q < i ∨ (q = i ∧ g < h) then nI (wPl W q g) else S.1 (w + 21) (q * 24 + g)) ∧ (∀ a g, a < 6 → g < 24 → s2.2.1 (w + 22) (a * 24 + g) = bs (fun q => decide (wPl W q g = a)) (if g < h then i + 1 else i)))
      (fun s2 => s2.2 = S.2 ∧ (∀ a j, a ≠ w + 21 → a ≠ w + 22 → s2.1 a j = S.1 a j) ∧ (∀ q g, q < 10 → g < 24 → s2.1 (w + 21) (q * 24 + g) = if q < i + 1 then nI (wPl W q g) else S.1 (w + 21) (q * 24 + g)) ∧ (∀ a g, a < 6 → g < 24 → s2.1 (w + 22) (a * 24 + g) = bs (fun q => decide (wPl W q g = a)) (i + 1))) 0 24 (by decide) (by omega)
      ⟨rfl, q1, q2, fun q g hq hg => ?_, fun a g ha hg => by rw [if_neg (Nat.not_lt_zero g)]; exact q4 a g ha hg⟩ ?_ ?_ ?_
    · rw [q3 q g hq hg]
      by_cases c : q < i
      · rw [if_pos c, if_pos (Or.inl c)]
      · rw [if_neg c, if_neg (by omega)]
    · rintro h ⟨u, s2⟩ _ hh ⟨rfl, r1, r2, r3, r4⟩
      dsimp only at r1 r2 r3 r4 ⊢
      have hpl := wPl_lt hW (by omega : 0 < W 0 0) i h
      refine Ok.ifF (nI_ge (b := 24) hh (by decide)) ?_
      rw [ix24]
      apply Ok.step (rd_nI (by omega) (by decide))
      rw [r3 i h (by omega) hh, if_neg (by omega), g5 i h (by omega) hh]
      have emx : mxI (0 : Int32) (if stY W (W 0 4) i h = true then nI (wAt W i h (W 0 4)) else -nI 2) = nI (wPl W i h) := mx_pl (by show wPl W i h < _; omega)
      rw [emx]
      apply Ok.step (wr_nI (by omega) (by decide))
      rw [ix24]
      apply Ok.step (rd_nI (by omega) (by decide))
      rw [upI_at, if_neg (by omega), r4 _ h (by omega) hh, if_neg (Nat.lt_irrefl h)]
      apply Ok.step (wr_nI (by omega) (by decide))
      have ebs : bs (fun q => decide (wPl W q h = wPl W i h)) i ||| ((1 : Int32) <<< (nI i &&& 31)) = bs (fun q => decide (wPl W q h = wPl W i h)) (i + 1) := by
        show _ = if decide (wPl W i h = wPl W i h) = true then _ else _
        rw [if_pos (by simp)]
      rw [ebs]
      refine Ok.inl ⟨nI_1 _, r1, fun a j h1 h2 => ?_, fun q g hq hg => ?_, fun a g ha hg => ?_⟩
      · dsimp only; rw [upI_at, if_neg (by omega), upI_at, if_neg (by omega)]; exact r2 a j h1 h2
      · dsimp only
        rw [upI_at, if_neg (by omega), upI_at]
        by_cases c : q = i ∧ g = h
        · rw [if_pos ⟨rfl, by rw [c.1, c.2]⟩, if_pos (by omega), c.1, c.2]
        · rw [if_neg (fun z => ix_ne hg hh (by omega) z.2), r3 q g hq hg]
          by_cases c2 : q < i ∨ q = i ∧ g < h
          · rw [if_pos c2, if_pos (by omega)]
          · rw [if_neg c2, if_neg (by omega)]
      · dsimp only
        rw [upI_at]
        by_cases c : a = wPl W i h ∧ g = h
        · rw [if_pos ⟨rfl, by rw [c.1, c.2]⟩, c.1, c.2, if_pos (Nat.lt_succ_self h)]
        · rw [if_neg (fun z => ix_ne hg hh (by omega) z.2), upI_at, if_neg (by omega), r4 a g ha hg]
          by_cases c2 : g < h
          · rw [if_pos c2, if_pos (by omega)]
          · rw [if_neg c2]
            by_cases c3 : g = h
            · rw [if_pos (by omega)]
              show _ = if decide (wPl W i g = a) = true then _ else _
              rw [if_neg (by simp; rw [c3]; intro z; exact c ⟨z.symm, c3⟩)]
            · rw [if_neg (by omega)]
    · rintro ⟨u, s2⟩ ⟨rfl, r1, r2, r3, r4⟩
      dsimp only at r1 r2 r3 r4 ⊢
      refine Ok.ifT (by decide) (Ok.inr ⟨r1, r2, fun q g hq hg => ?_, fun a g ha hg => ?_⟩)
      · rw [r3 q g hq hg]
        by_cases c : q < i + 1
        · rw [if_pos c, if_pos (by omega)]
        · rw [if_neg c, if_neg (by omega)]
      · rw [r4 a g ha hg, if_pos hg]
    · rintro s2 ⟨r1, r2, r3, r4⟩
      exact Ok.inl ⟨nI_1 _, fun _ => by omega, r1, r2, r3, r4⟩
  · rintro ⟨u, s⟩ ⟨rfl, qi, q1, q2, q3, q4⟩
    dsimp only at q1 q2 q3 q4 ⊢
    apply Ok.step (cnt1 (fun j => q2 _ _ (by omega) (by omega)))
    refine Ok.ifT (nI_le (Nat.le_refl _) (by omega)) (Ok.inr ⟨q1, q2, fun p h hp hh => ?_, fun a h ha hh => ?_⟩)
    · have := qi (by omega)
      rw [q3 p h (by omega) hh, if_pos hp]
      unfold plI
      rw [if_pos this]
    · rw [q4 a h (by omega) hh]
      refine bs_congr (fun q _ => ?_)
      have : 0 < W 0 0 := by omega
      simp [wStand, wOn, nD, this]
  rintro S2 ⟨l2, o2, p2, s2⟩
  -- who hears
  have h0 : ∀ {s : ST}, (∀ j, s.1 (w + 1) j = S.1 (w + 1) j) → s.1 (w + 1) 0 = nI (W 0 0) := fun h => by rw [h, g1 0 (by decide)]
  have hth : ∀ a, a < W 0 0 → ∀ x, x < W 0 0 → bt (bs (thN W (W 0 3) a) 6 ||| ((1 : Int32) <<< (nI a &&& 31))) x = (thN W (W 0 3) a x || decide (x = a)) := fun a ha x hx => by
    rw [b_or, bt_bs _ _ (by decide), bit_bt (by omega) (by omega), decide_eq_true (by omega : x < 6), Bool.true_and]
  have ehe : ∀ a h, a < W 0 0 → (bs (fun p => anyN (fun x => bt (bs (thN W (W 0 3) a) 6 ||| ((1 : Int32) <<< (nI a &&& 31))) x && wStand W nD x h p) (W 0 0)) (W 0 1)) = bs (wHear W nD a h) (W 0 1) := fun a h ha => by
    refine bs_congr (fun p _ => ?_)
    have hpl := wPl_lt hW (by omega : 0 < W 0 0) p h
    have h1 : anyN (fun x => bt (bs (thN W (W 0 3) a) 6 ||| ((1 : Int32) <<< (nI a &&& 31))) x && wStand W nD x h p) (W 0 0) = anyN (fun x => (thN W (W 0 3) a x || decide (x = a)) && (wOn W nD p && decide (wPl W p h = x))) (W 0 0) := anyN_congr (fun x hx => by rw [hth a ha x hx]; rfl)
    rw [h1]
    have hthin : thN W (W 0 3) a (wPl W p h) = wThin W (wPl W p h) a := by
      unfold thN wThin
      apply Bool.eq_iff_iff.mpr
      rw [anyN_iff, List.any_eq_true]
      constructor
      · rintro ⟨k, k1, k2⟩
        refine ⟨k, List.mem_range.mpr k1, ?_⟩
        simp only [decide_eq_true_eq] at k2 ⊢
        rcases k2 with z | z
        · exact Or.inr z
        · exact Or.inl z
      · rintro ⟨k, k1, k2⟩
        refine ⟨k, List.mem_range.mp k1, ?_⟩
        simp only [decide_eq_true_eq] at k2 ⊢
        rcases k2 with z | z
        · exact Or.inr z
        · exact Or.inl z
    apply Bool.eq_iff_iff.mpr
    rw [anyN_iff]
    unfold wHear
    rw [← hthin]
    simp only [Bool.and_eq_true, Bool.or_eq_true, decide_eq_true_eq]
    constructor
    · rintro ⟨x, x1, x2, x3, x4⟩
      subst x4
      exact ⟨x3, x2.symm⟩
    · rintro ⟨x3, x2⟩
      exact ⟨wPl W p h, hpl, x2.symm, x3, rfl⟩
  refine bindL (fun i (s : Int32 × ST) => s.1 = nI i ∧ s.2.2 = S.2 ∧ (∀ a j, a ≠ w + 23 → s.2.1 a j = S2.1 a j) ∧ (∀ a g, a < i → g < 24 → s.2.1 (w + 23) (a * 24 + g) = bs (wHear W nD a g) (W 0 1)))
    (fun s => s.2 = S.2 ∧ (∀ a j, a ≠ w + 23 → s.1 a j = S2.1 a j) ∧ (∀ a g, a < W 0 0 → g < 24 → s.1 (w + 23) (a * 24 + g) = bs (wHear W nD a g) (W 0 1))) 0 (W 0 0) (Nat.zero_le _) (by omega)
    ⟨rfl, l2, fun _ _ _ => rfl, fun a g ha => absurd ha (Nat.not_lt_zero a)⟩ ?_ ?_ ?_
  · rintro i ⟨u, s⟩ _ hi ⟨rfl, q1, q2, q3⟩
    dsimp only at q1 q2 q3 ⊢
    have qc : ∀ j, s.1 (w + 1) j = S.1 (w + 1) j := fun j => by rw [q2 _ _ (by omega), o2 _ _ (by omega) (by omega)]
    apply Ok.step (cnt0 qc)
    refine Ok.ifF (nI_ge hi (by omega)) ?_
    refine bindL (fun h (t : Int32 × ST) => t.1 = nI h ∧ t.2.2 = S.2 ∧ (∀ a j, a ≠ w + 23 → t.2.1 a j = S2.1 a j) ∧ (∀ a g, (a < i ∨ (a = i ∧ g < h)) → g < 24 → t.2.1 (w + 23) (a * 24 + g) = bs (wHear W nD a g) (W 0 1)))
      (fun t => t.2 = S.2 ∧ (∀ a j, a ≠ w + 23 → t.1 a j = S2.1 a j) ∧ (∀ a g, a < i + 1 → g < 24 → t.1 (w + 23) (a * 24 + g) = bs (wHear W nD a g) (W 0 1))) 0 24 (by decide) (by omega)
      ⟨rfl, q1, q2, fun a g h1 h2 => q3 a g (by omega) h2⟩ ?_ ?_ ?_
    · rintro h ⟨u, t⟩ _ hh ⟨rfl, r1, r2, r3⟩
      dsimp only at r1 r2 r3 ⊢
      refine Ok.ifF (nI_ge (b := 24) hh (by decide)) ?_
      apply Ok.step (rd_nI (by omega) (by decide))
      rw [r2 _ _ (by omega), o2 _ _ (by omega) (by omega), g3 i (by omega)]
      apply Ok.step (c_withinP hW hn hh (h0 (fun j => by rw [r2 _ _ (by omega), o2 _ _ (by omega) (by omega)])) (fun a ha => by rw [r2 _ _ (by omega)]; exact s2 a h ha hh))
      rw [ehe i h hi, ix24]
      apply Ok.step (wr_nI (by omega) (by decide))
      refine Ok.inl ⟨nI_1 _, r1, fun a j h1 => ?_, fun a g h1 h2 => ?_⟩
      · dsimp only; rw [upI_at, if_neg (by omega)]; exact r2 a j h1
      · dsimp only; rw [upI_at]
        by_cases c : a = i ∧ g = h
        · rw [if_pos ⟨rfl, by rw [c.1, c.2]⟩, c.1, c.2]
        · rw [if_neg (fun z => ix_ne h2 hh (by omega) z.2)]
          exact r3 a g (by omega) h2
    · rintro ⟨u, t⟩ ⟨rfl, r1, r2, r3⟩
      dsimp only at r1 r2 r3 ⊢
      exact Ok.ifT (by decide) (Ok.inr ⟨r1, r2, fun a g h1 h2 => r3 a g (by omega) h2⟩)
    · rintro t ⟨r1, r2, r3⟩
      exact Ok.inl ⟨nI_1 _, r1, r2, r3⟩
  · rintro ⟨u, s⟩ ⟨rfl, q1, q2, q3⟩
    dsimp only at q1 q2 q3 ⊢
    apply Ok.step (cnt0 (fun j => by rw [q2 _ _ (by omega), o2 _ _ (by omega) (by omega)]))
    exact Ok.ifT (nI_le (Nat.le_refl _) (by omega)) (Ok.inr ⟨q1, q2, q3⟩)
  rintro S3 ⟨l3, o3, e3⟩
  have hTC : ∀ q ∈ TC, ∀ j, j < W 0 q.2.2 → S.1 (w + q.2.1) j = nI (W q.1 j) := g2
  have hP3 : ∀ {s : ST}, (∀ a j, a ≠ w + 19 → a ≠ w + 20 → a ≠ w + 24 → s.1 a j = S3.1 a j) → CPl W V w s := fun {s} e => by
    have eS : ∀ a j, a ≠ w + 19 → a ≠ w + 20 → a ≠ w + 24 → a ≠ w + 21 → a ≠ w + 22 → a ≠ w + 23 → s.1 a j = S.1 a j := fun a j h1 h2 h3 h4 h5 h6 => by rw [e a j h1 h2 h3, o3 a j h6, o2 a j h4 h5]
    refine ⟨hw, fun k hk => by rw [eS _ _ (by omega) (by omega) (by omega) (by omega) (by omega) (by omega)]; exact g1 k hk, fun p hp => ⟨?_, ?_⟩, fun p h hp hh => ?_, fun a h ha hh => ?_, ⟨fun x hx => ?_, fun S4 n x k hn hl hx hk => hL.2 S4 n x k hn (fun a j h1 h2 => (hl a j h1 h2).trans (eS _ _ (by omega) (by omega) (by omega) (by omega) (by omega) (by omega))) hx hk⟩⟩
    · rw [eS _ _ (by omega) (by omega) (by omega) (by omega) (by omega) (by omega)]; exact hTC (1, 2, 1) (by decide) p hp
    · rw [eS _ _ (by omega) (by omega) (by omega) (by omega) (by omega) (by omega)]; exact hTC (2, 3, 1) (by decide) p hp
    · rw [e _ _ (by omega) (by omega) (by omega), o3 _ _ (by omega)]; exact p2 p h hp hh
    · rw [e _ _ (by omega) (by omega) (by omega), o3 _ _ (by omega)]; exact s2 a h ha hh
    · rw [eS _ _ (by omega) (by omega) (by omega) (by omega) (by omega) (by omega)]; exact hL.1 x hx
  -- who may say
  refine bindL (fun i (s : Int32 × ST) => s.1 = nI i ∧ s.2.2 = S.2 ∧ (∀ a j, a ≠ w + 19 → a ≠ w + 20 → a ≠ w + 24 → s.2.1 a j = S3.1 a j) ∧ (∀ p g, p < i → g < 24 → s.2.1 (w + 24) (p * 24 + g) = bs (fun o => wMay W V nD p o g 0) (W 0 1)))
    (fun s => s.2 = S.2 ∧ (∀ a j, a ≠ w + 19 → a ≠ w + 20 → a ≠ w + 24 → s.1 a j = S3.1 a j) ∧ (∀ p g, p < W 0 1 → g < 24 → s.1 (w + 24) (p * 24 + g) = bs (fun o => wMay W V nD p o g 0) (W 0 1))) 0 (W 0 1) (Nat.zero_le _) (by omega)
    ⟨rfl, l3, fun _ _ _ _ _ => rfl, fun a g ha => absurd ha (Nat.not_lt_zero a)⟩ ?_ ?_ ?_
  · rintro i ⟨u, s⟩ _ hi ⟨rfl, q1, q2, q3⟩
    dsimp only at q1 q2 q3 ⊢
    apply Ok.step (x := nI (W 0 1)) (by rw [show (1 : Int32) = nI 1 from rfl, rd_nI (by decide) (by decide), (hP3 q2).2.1 1 (by decide)])
    refine Ok.ifF (nI_ge hi (by omega)) ?_
    refine bindL (fun h (t : Int32 × ST) => t.1 = nI h ∧ t.2.2 = S.2 ∧ (∀ a j, a ≠ w + 19 → a ≠ w + 20 → a ≠ w + 24 → t.2.1 a j = S3.1 a j) ∧ (∀ p g, (p < i ∨ (p = i ∧ g < h)) → g < 24 → t.2.1 (w + 24) (p * 24 + g) = bs (fun o => wMay W V nD p o g 0) (W 0 1)))
      (fun t => t.2 = S.2 ∧ (∀ a j, a ≠ w + 19 → a ≠ w + 20 → a ≠ w + 24 → t.1 a j = S3.1 a j) ∧ (∀ p g, p < i + 1 → g < 24 → t.1 (w + 24) (p * 24 + g) = bs (fun o => wMay W V nD p o g 0) (W 0 1))) 0 24 (by decide) (by omega)
      ⟨rfl, q1, q2, fun a g h1 h2 => q3 a g (by omega) h2⟩ ?_ ?_ ?_
    · rintro h ⟨u, t⟩ _ hh ⟨rfl, r1, r2, r3⟩
      dsimp only at r1 r2 r3 ⊢
      refine Ok.ifF (nI_ge (b := 24) hh (by decide)) ?_
      obtain ⟨⟨x, t2⟩, f2, x2, d2⟩ := c_othersP (n := n) (hP3 r2) hW hn hi hh
      dsimp only at x2 d2
      subst x2
      apply Ok.step f2
      dsimp only
      rw [ix24]
      apply Ok.step (wr_nI (by omega) (by decide))
      have ot : ∀ a j, a ≠ w + 19 → a ≠ w + 20 → t2.1 a j = t.1 a j := fun a j h1 h2 => d2.2 _ _ (by
        simp only [XA, Bool.or_eq_false_iff, beq_eq_false_iff_ne]; omega)
      refine Ok.inl ⟨nI_1 _, by show t2.2 = _; rw [d2.1, r1], fun a j h1 h2 h3 => ?_, fun a g h1 h2 => ?_⟩
      · dsimp only; rw [upI_at, if_neg (by omega), ot _ _ h1 h2]; exact r2 a j h1 h2 h3
      · dsimp only; rw [upI_at]
        by_cases c : a = i ∧ g = h
        · rw [if_pos ⟨rfl, by rw [c.1, c.2]⟩, c.1, c.2]
        · rw [if_neg (fun z => ix_ne h2 hh (by omega) z.2), ot _ _ (by omega) (by omega)]
          exact r3 a g (by omega) h2
    · rintro ⟨u, t⟩ ⟨rfl, r1, r2, r3⟩
      dsimp only at r1 r2 r3 ⊢
      exact Ok.ifT (by decide) (Ok.inr ⟨r1, r2, fun a g h1 h2 => r3 a g (by omega) h2⟩)
    · rintro t ⟨r1, r2, r3⟩
      exact Ok.inl ⟨nI_1 _, r1, r2, r3⟩
  · rintro ⟨u, s⟩ ⟨rfl, q1, q2, q3⟩
    dsimp only at q1 q2 q3 ⊢
    apply Ok.step (x := nI (W 0 1)) (by rw [show (1 : Int32) = nI 1 from rfl, rd_nI (by decide) (by decide), (hP3 q2).2.1 1 (by decide)])
    exact Ok.ifT (nI_le (Nat.le_refl _) (by omega)) (Ok.inr ⟨q1, q2, q3⟩)
  rintro S4 ⟨l4, o4, e4⟩
  have hF := hP3 o4
  have eS : ∀ a j, a ≠ w + 19 → a ≠ w + 20 → a ≠ w + 24 → a ≠ w + 21 → a ≠ w + 22 → a ≠ w + 23 → S4.1 a j = S.1 a j := fun a j h1 h2 h3 h4 h5 h6 => by rw [o4 a j h1 h2 h3, o3 a j h6, o2 a j h4 h5]
  have row : ∀ q ∈ TC, ∀ j, j < W 0 q.2.2 → S4.1 (w + q.2.1) j = nI (W q.1 j) := fun q hq j hj => by
    have := TC_ok q hq
    rw [eS _ _ (by omega) (by omega) (by omega) (by omega) (by omega) (by omega)]
    exact g2 q hq j hj
  refine Ok.ret ⟨⟨hw, hF.2.1, row (1, 2, 1) (by decide), row (2, 3, 1) (by decide), row (3, 4, 2) (by decide), fun p hp => ?_, row (12, 7, 6) (by decide), row (13, 8, 6) (by decide), row (14, 9, 6) (by decide), row (15, 10, 7) (by decide), row (16, 11, 7) (by decide), row (17, 12, 8) (by decide), hF.2.2.2.1, hF.2.2.2.2.1, fun a h ha hh => ?_, e4, hF.2.2.2.2.2⟩, l4, fun a j h => ?_⟩
  · rw [eS _ _ (by omega) (by omega) (by omega) (by omega) (by omega) (by omega)]; exact g4 p hp
  · rw [o4 _ _ (by omega) (by omega) (by omega)]; exact e3 a h ha hh
  · exact eS _ _ (by omega) (by omega) (by omega) (by omega) (by omega) (by omega)
end CSF
