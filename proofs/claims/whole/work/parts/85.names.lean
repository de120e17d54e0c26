/-! ===== the reference: names ===== -/
def rsort (k : Nat) : Nat := if k = 7 ∨ k = 8 then 3 else k
/-- the table of names, by the reference -/
def NTR (T : NTb) (S : ST) : Prop := ∀ j, j < T.length → S.2 103 j = nL (T.getD j (0, 0, 0)).1 ∧ S.1 104 j = nI (rsort (T.getD j (0, 0, 0)).2.1) ∧ S.1 105 j = nI (T.getD j (0, 0, 0)).2.2
/-- the values are numbers that longs hold, no two alike -/
def NTw (cnt : Nat → Nat) (T : NTb) : Prop := (∀ e ∈ T, e.1 < 2 ^ 63 ∧ (isNm e.2.1 = true) ∧ e.2.2 < cnt e.2.1) ∧ ∀ i j, i < T.length → j < T.length → (T.getD i (0, 0, 0)).1 = (T.getD j (0, 0, 0)).1 → i = j
theorem lk_none {T : NTb} {v : Nat} (h : lk T v = none) : ∀ e ∈ T, e.1 ≠ v := fun e he hv => by
  have := List.find?_eq_none.mp h e he
  rw [hv] at this
  exact this (beq_self_eq_true v)
theorem lk_some {T : NTb} {v : Nat} {e : Nat × Nat × Nat} (h : lk T v = some e) : e ∈ T ∧ e.1 = v := by
  refine ⟨List.mem_of_find?_eq_some h, ?_⟩
  have := List.find?_some h
  exact beq_iff_eq.mp this
theorem getD_mem {T : NTb} {j : Nat} (h : j < T.length) : T.getD j (0, 0, 0) ∈ T := by
  rw [List.getD_eq_getElem?_getD, List.getElem?_eq_getElem h]
  exact List.getElem_mem h
theorem mem_getD {T : NTb} {e : Nat × Nat × Nat} (h : e ∈ T) : ∃ j, j < T.length ∧ T.getD j (0, 0, 0) = e := by
  obtain ⟨j, hj, he⟩ := List.mem_iff_getElem.mp h
  exact ⟨j, hj, by rw [List.getD_eq_getElem?_getD, List.getElem?_eq_getElem hj]; exact he⟩
theorem tkV_63 {c : Nat → Nat} {L j : Nat} : tkV c L j < 2 ^ 63 := by
  unfold tkV
  split
  case isFalse => decide
  rename_i hs
  unfold lxV
  by_cases h1 : isLt (c (tkS c L j)) = true
  · rw [if_pos h1]
    split
    case isFalse => decide
    rename_i h4
    have hd := wd_lt (c := c) (i := tkS c L j) (eor isLt c L (tkS c L j) - tkS c L j) (fun i hi => (eor_spec (P := isLt) (c := c) (L := L) (i := tkS c L j) (by omega)).2.2.1 (tkS c L j + i) (by omega) (by omega))
    have : 27 ^ (eor isLt c L (tkS c L j) - tkS c L j) ≤ 27 ^ 8 := Nat.pow_le_pow_right (by decide) h4
    omega
  rw [if_neg h1]
  by_cases h2 : isDg (c (tkS c L j)) = true
  · rw [if_pos h2]
    split
    case isFalse => decide
    rename_i h4
    have hd := dg_lt (c := c) (i := tkS c L j) (eor isDg c L (tkS c L j) - tkS c L j) (fun i hi => (eor_spec (P := isDg) (c := c) (L := L) (i := tkS c L j) (by omega)).2.2.1 (tkS c L j + i) (by omega) (by omega))
    have : 10 ^ (eor isDg c L (tkS c L j) - tkS c L j) ≤ 10 ^ 4 := Nat.pow_le_pow_right (by decide) h4
    omega
  · rw [if_neg h2]; decide
section RNM
variable {n L : Nat} {c : Nat → Nat} {S : ST}
/-- where a token is, also behind a fault -/
theorem RY.at {y : Nat × Nat} (hy : RY c L y S) (hw : yW (tkK c L) y) : ∃ t, t ≤ 400 ∧ S.1 95 11 = nI t ∧ (y.1 = 0 → t = y.2) := by
  by_cases c0 : y.1 = 0
  · exact ⟨y.2, hw.2.1, hy.2.1 c0, fun _ => rfl⟩
  · obtain ⟨_, t, h1, h2⟩ := hy.2.2 c0
    exact ⟨t, h1, h2, fun z => absurd z c0⟩
theorem r_named {y : Nat × Nat} {sf : SF} {T : NTb} {nn : Nat} {cnt : Nat → Nat} (hn : 30000 ≤ n) (hT : RTk c L S) (hy : RY c L y S) (hw : yW (tkK c L) y) (hLb : L ≤ 2000) (h20 : S.1 95 20 = nI nn) (hnn : nn ≤ 32) (hW : y.1 = 0 → WR c L sf S ∧ SFb sf y.2) (hN : sf = none → T.length = nn ∧ NTR T S ∧ NTw cnt T) :
    Ok (E_X12_named n S) (fun r => Df XSm S r.2 ∧ RY c L (tk (tkK c L) 20 y) r.2 ∧ (∃ t, t ≤ 400 ∧ r.1 = nI t ∧ (y.1 = 0 → t = y.2)) ∧ ((tk (tkK c L) 20 y).1 = 0 → ∃ sf', WR c L sf' r.2 ∧ (∀ x, sf = some x → sf' = some x) ∧ (sf = none → sf' = cNew (tkV c L) T y.2))) := by
  obtain ⟨t, ht, e11, et⟩ := hy.at hw
  have hw2 := hw.2.1
  unfold E_X12_named
  rw [e11]
  obtain ⟨S2, f2, d2, y2⟩ := r_must (n := n) (k := 20) hT hy hw (by decide)
  apply Ok.step (show E_X12_must n S (1 : Int32) = some S2 from f2)
  have w2 := tk_w (k := 20) hw (by decide)
  have o2 : ∀ j, (j ≠ 11 ∧ j ≠ 13 ∧ j ≠ 14) → S2.1 95 j = S.1 95 j := fun j hj => d2.2 _ _ (by simp only [XFl, Bool.and_eq_false_iff, Bool.or_eq_false_iff, beq_eq_false_iff_ne]; omega)
  have hT2 := hT.fl d2
  by_cases c0 : (tk (tkK c L) 20 y).1 = 0
  case neg =>
    refine bindW (fun d (s : Int32 × ST) => s = ((0 : Int32), S2)) 0 (fun S' => S' = S2) (by omega) rfl ?_ ?_
    · rintro d s rfl
      dsimp only
      refine Ok.ifC (fun _ => Ok.inr rfl) (fun _ => Ok.ifF (fun z => c0 ?_) (Ok.inr rfl))
      rw [y2.1] at z
      have := w2.1
      exact (nI_eq (b := 0) (by omega) (by decide)).mp z
    · rintro S' rfl
      exact Ok.ret ⟨XFl_Sm d2, y2, ⟨t, ht, rfl, et⟩, fun z => absurd z c0⟩
  obtain ⟨a1, a2, a3, a4⟩ := tk_0 c0
  obtain ⟨hWR, hSb⟩ := hW a1
  have et' := et a1
  subst et'
  have hnm : S.2 101 y.2 = nL (tkV c L y.2) := (hT y.2 hw2 hw.2.2).2.2.2 a2
  have hv63 := tkV_63 (c := c) (L := L) (j := y.2)
  refine bindL (fun i (s : Int32 × ST) => s.1 = nI i ∧ Df XWr S2 s.2 ∧ ∃ sf', WR c L sf' s.2 ∧ (∀ x, sf = some x → sf' = some x) ∧ (sf = none → sf' = none ∨ sf' = some (3, y.2)) ∧ (sf = none → (sf' = some (3, y.2) ↔ ∃ j, j < i ∧ (T.getD j (0, 0, 0)).1 = tkV c L y.2))) (fun S' => Df XWr S2 S' ∧ ∃ sf', WR c L sf' S' ∧ (∀ x, sf = some x → sf' = some x) ∧ (sf = none → sf' = none ∨ sf' = some (3, y.2)) ∧ (sf = none → (sf' = some (3, y.2) ↔ ∃ j, j < nn ∧ (T.getD j (0, 0, 0)).1 = tkV c L y.2))) 0 nn (Nat.zero_le _) (by omega) ?_ ?_ ?_ ?_
  · refine ⟨rfl, Df.refl _ _, sf, hWR.fr (fun j hj => o2 j (by omega)), fun x hx => hx, fun h => Or.inl h, fun h => ⟨fun z => ?_, fun ⟨j, hj, _⟩ => absurd hj (Nat.not_lt_zero j)⟩⟩
    rw [h] at z; cases z
  · rintro i ⟨u, S3⟩ _ hi ⟨rfl, d3, sf', w3, g1, g2, g3⟩
    dsimp only at d3 w3 ⊢
    have o3 : ∀ a j, (a ≠ 95 ∨ (j ≠ 15 ∧ j ≠ 16)) → S3.1 a j = S2.1 a j := fun a j hj => d3.2 _ _ (by simp only [XWr, Bool.and_eq_false_iff, Bool.or_eq_false_iff, beq_eq_false_iff_ne]; omega)
    have e20 : S3.1 95 20 = nI nn := by rw [o3 _ _ (by omega), o2 _ (by omega)]; exact h20
    have e13 : S3.1 95 13 = 0 := by rw [o3 _ _ (by omega), y2.1, c0]; rfl
    refine Ok.ifF (by rw [e20]; exact nI_ge hi (by omega)) (Ok.ifT e13 ?_)
    apply Ok.step (rd_nI (by omega) (by decide))
    apply Ok.step (rd_nI (by omega) (by decide))
    have eS2 : S3.2 = S.2 := d3.1.trans d2.1
    rw [eS2, hnm]
    apply Ok.jnU
    have y3 : RY c L (tk (tkK c L) 20 y) S3 := y2.fr (fun j hj => o3 _ _ (by omega))
    have hT3 : RTk c L S3 := hT2.sm (XWr_Sm d3)
    -- the next name
    have keep : ∀ (S4 : ST) (sf4 : SF), Df XWr S2 S4 → WR c L sf4 S4 → (∀ x, sf = some x → sf4 = some x) → (sf = none → sf4 = none ∨ sf4 = some (3, y.2)) → (sf = none → (sf4 = some (3, y.2) ↔ ∃ j, j < i + 1 ∧ (T.getD j (0, 0, 0)).1 = tkV c L y.2)) → Ok (some (.inl ((nI i + (1 : Int32)), S4)) : Option ((Int32 × ST) ⊕ ST)) (Sum.elim (fun s => s.1 = nI (i + 1) ∧ Df XWr S2 s.2 ∧ ∃ sf', WR c L sf' s.2 ∧ (∀ x, sf = some x → sf' = some x) ∧ (sf = none → sf' = none ∨ sf' = some (3, y.2)) ∧ (sf = none → (sf' = some (3, y.2) ↔ ∃ j, j < i + 1 ∧ (T.getD j (0, 0, 0)).1 = tkV c L y.2))) (fun S' => Df XWr S2 S' ∧ ∃ sf', WR c L sf' S' ∧ (∀ x, sf = some x → sf' = some x) ∧ (sf = none → sf' = none ∨ sf' = some (3, y.2)) ∧ (sf = none → (sf' = some (3, y.2) ↔ ∃ j, j < nn ∧ (T.getD j (0, 0, 0)).1 = tkV c L y.2)))) := fun S4 sf4 h1 h2 h3 h4 h5 => Ok.inl ⟨nI_1 _, h1, sf4, h2, h3, h4, h5⟩
    have eqv : sf = none → (lg_cmp (S.2 103 i) (nL (tkV c L y.2)) = 0 ↔ (T.getD i (0, 0, 0)).1 = tkV c L y.2) := fun h => by
      obtain ⟨h1, h2, h3⟩ := hN h
      rw [lg_cmp_eq, (h2 i (by omega)).1, nL_inj ((h3.1 _ (getD_mem (by omega))).1) hv63]
    refine Ok.ifC (fun z => ?_) (fun z => ?_)
    · obtain ⟨S4, f4, d4, w4⟩ := r_wrong (n := n) (f := 3) (j := y.2) hT3 y3 w2.1 hw2 hw.2.2 (by decide) (by decide) w3 (fun x hx => by
        cases hsf : sf with
        | none =>
          rcases g2 hsf with h | h
          · rw [h] at hx; cases hx
          · rw [h] at hx; exact Or.inr (Option.some.inj hx).symm
        | some x' =>
          have := g1 x' hsf
          rw [this] at hx
          rw [← Option.some.inj hx]
          exact Or.inl (hSb x' hsf)) hLb
      apply Ok.step (show E_X12_wrong n S3 (3 : Int32) (nI y.2) = some S4 from f4)
      refine keep S4 _ (d3.trans d4) (w4 c0) (fun x hx => ?_) (fun h => ?_) (fun h => ?_)
      · rw [g1 x hx]; rfl
      · right
        rcases g2 h with h2 | h2
        · rw [h2]; rfl
        · rw [h2]; rfl
      · refine ⟨fun _ => ⟨i, by omega, (eqv h).mp z⟩, fun _ => ?_⟩
        rcases g2 h with h2 | h2
        · rw [h2]; rfl
        · rw [h2]; rfl
    · refine keep S3 sf' d3 w3 g1 g2 (fun h => ?_)
      rw [g3 h]
      refine ⟨fun ⟨j, h1, h2⟩ => ⟨j, by omega, h2⟩, fun ⟨j, h1, h2⟩ => ⟨j, ?_, h2⟩⟩
      rcases Nat.lt_or_ge j i with g | g
      · exact g
      · have : j = i := by omega
        subst this
        exact absurd ((eqv h).mpr h2) z
  · rintro ⟨u, S3⟩ ⟨rfl, d3, h⟩
    dsimp only at d3 h ⊢
    have e20 : S3.1 95 20 = nI nn := by rw [d3.2 _ _ rfl, o2 _ (by omega)]; exact h20
    exact Ok.ifT (by rw [e20]; exact nI_le (Nat.le_refl _) (by omega)) (Ok.inr ⟨d3, h⟩)
  · rintro S3 ⟨d3, sf', w3, g1, g2, g3⟩
    refine Ok.ret ⟨(XFl_Sm d2).trans (XWr_Sm d3), y2.fr (fun j hj => d3.2 _ _ (by simp only [XWr, Bool.and_eq_false_iff, Bool.or_eq_false_iff, beq_eq_false_iff_ne]; omega)), ⟨y.2, hw2, rfl, fun _ => rfl⟩, fun _ => ⟨sf', w3, g1, fun h => ?_⟩⟩
    obtain ⟨h1, h2, h3⟩ := hN h
    unfold cNew
    cases hl : lk T (tkV c L y.2) with
    | none =>
      rw [if_neg (by decide)]
      rcases g2 h with g | g
      · exact g
      · obtain ⟨j, hj, hj2⟩ := (g3 h).mp g
        exact absurd hj2 (lk_none hl _ (getD_mem (by omega)))
    | some e =>
      rw [if_pos (show (some e).isSome = true from rfl)]
      obtain ⟨m1, m2⟩ := lk_some hl
      obtain ⟨j, hj, hj2⟩ := mem_getD m1
      exact (g3 h).mpr ⟨j, by omega, by rw [hj2]; exact m2⟩
end RNM
