/-! ===== the reference: what is known by name, counts ===== -/
def XCo (u a j : Nat) : Bool := XSm a j || (a == 106 && j == u)
def XNo (nn a j : Nat) : Bool := ((a == 104 || a == 105) && j == nn) || (a == 95 && j == 20)
def YNo (a : Nat) : Bool := a == 103
section RKN
variable {n L : Nat} {c : Nat → Nat} {S : ST}
theorem isNm_lt {k : Nat} (h : isNm k = true) : k < 11 := by
  simp only [isNm, Bool.or_eq_true, beq_iff_eq] at h
  omega
theorem r_known {y : Nat × Nat} {sf : SF} {T : NTb} {nn k : Nat} {cnt : Nat → Nat} (hn : 30000 ≤ n) (hk : k < 3) (hT : RTk c L S) (hy : RY c L y S) (hw : yW (tkK c L) y) (hLb : L ≤ 2000) (h20 : S.1 95 20 = nI nn) (hnn : nn ≤ 32) (hcnt : ∀ k, k < 11 → cnt k ≤ 20) (hW : y.1 = 0 → WR c L sf S ∧ SFb sf y.2) (hN : sf = none → T.length = nn ∧ NTR T S ∧ NTw cnt T) :
    Ok (E_X12_known n S (nI k)) (fun r => Df XSm S r.2 ∧ RY c L (tk (tkK c L) 20 y) r.2 ∧ ((tk (tkK c L) 20 y).1 = 0 → ∃ sf', WR c L sf' r.2 ∧ (∀ x, sf = some x → sf' = some x) ∧ (sf = none → sf' = cOld (tkV c L) T k y.2 ∧ (∀ m, oldN (tkV c L) T k y.2 = some m → r.1 = nI m ∧ m < cnt k) ∧ (oldN (tkV c L) T k y.2 = none → r.1 = -1)))) := by
  obtain ⟨t, ht, e11, et⟩ := hy.at hw
  have hw2 := hw.2.1
  unfold E_X12_known
  rw [e11]
  obtain ⟨S2, f2, d2, y2⟩ := r_must (n := n) (k := 20) hT hy hw (by decide)
  apply Ok.step (show E_X12_must n S (1 : Int32) = some S2 from f2)
  have w2 := tk_w (k := 20) hw (by decide)
  have o2 : ∀ a j, (a ≠ 95 ∨ (j ≠ 11 ∧ j ≠ 13 ∧ j ≠ 14)) → S2.1 a j = S.1 a j := fun a j hj => d2.2 _ _ (by simp only [XFl, Bool.and_eq_false_iff, Bool.or_eq_false_iff, beq_eq_false_iff_ne]; omega)
  have hT2 := hT.fl d2
  by_cases c0 : (tk (tkK c L) 20 y).1 = 0
  case neg =>
    refine Ok.ifF ?_ (Ok.ret ⟨XFl_Sm d2, y2, fun z => absurd z c0⟩)
    rw [y2.1]
    have := w2.1
    exact nI_nle (by omega) (by omega)
  refine Ok.ifT (by rw [y2.1, c0]; decide) ?_
  obtain ⟨a1, a2, a3, a4⟩ := tk_0 c0
  obtain ⟨hWR, hSb⟩ := hW a1
  have et' := et a1
  subst et'
  have hnm : S.2 101 y.2 = nL (tkV c L y.2) := (hT y.2 hw2 hw.2.2).2.2.2 a2
  have hv63 := tkV_63 (c := c) (L := L) (j := y.2)
  have e20 : S2.1 95 20 = nI nn := by rw [o2 _ _ (by omega)]; exact h20
  have eS2 : S2.2 = S.2 := d2.1
  have h104 : ∀ j, S2.1 104 j = S.1 104 j := fun j => o2 _ _ (by omega)
  have h105 : ∀ j, S2.1 105 j = S.1 105 j := fun j => o2 _ _ (by omega)
  have rs : ∀ a, rsort a = k ↔ a = k := fun a => by
    unfold rsort
    split
    · omega
    · exact Iff.rfl
  -- what is found among the first i
  refine bindL (fun i (s : Int32 × Int32) => s.2 = nI i ∧ (sf = none → (∃ j, j < i ∧ (T.getD j (0, 0, 0)).1 = tkV c L y.2 ∧ (T.getD j (0, 0, 0)).2.1 = k ∧ s.1 = nI (T.getD j (0, 0, 0)).2.2) ∨ (s.1 = -1 ∧ ∀ j, j < i → ¬ ((T.getD j (0, 0, 0)).1 = tkV c L y.2 ∧ (T.getD j (0, 0, 0)).2.1 = k)))) (fun e => sf = none → (∃ j, j < nn ∧ (T.getD j (0, 0, 0)).1 = tkV c L y.2 ∧ (T.getD j (0, 0, 0)).2.1 = k ∧ e = nI (T.getD j (0, 0, 0)).2.2) ∨ (e = -1 ∧ ∀ j, j < nn → ¬ ((T.getD j (0, 0, 0)).1 = tkV c L y.2 ∧ (T.getD j (0, 0, 0)).2.1 = k))) 0 nn (Nat.zero_le _) (by omega) ⟨rfl, fun _ => Or.inr ⟨rfl, fun j hj => absurd hj (Nat.not_lt_zero j)⟩⟩ ?_ ?_ ?_
  · rintro i ⟨u, v⟩ _ hi ⟨rfl, hI⟩
    dsimp only at hI ⊢
    refine Ok.ifF (by rw [e20]; exact nI_ge hi (by omega)) ?_
    apply Ok.jnU
    have num : sf = none → ∀ j, j < nn → nI (T.getD j (0, 0, 0)).2.2 ≠ -1 ∧ (T.getD j (0, 0, 0)).2.2 < cnt (T.getD j (0, 0, 0)).2.1 := fun h j hj => by
      obtain ⟨h1, h2, h3⟩ := hN h
      obtain ⟨g1, g2, g3⟩ := h3.1 _ (getD_mem (T := T) (j := j) (by omega))
      have := hcnt _ (isNm_lt g2)
      exact ⟨nI_m1 (by omega), g3⟩
    have nxt : ∀ u' : Int32, (sf = none → (∃ j, j < i + 1 ∧ (T.getD j (0, 0, 0)).1 = tkV c L y.2 ∧ (T.getD j (0, 0, 0)).2.1 = k ∧ u' = nI (T.getD j (0, 0, 0)).2.2) ∨ (u' = -1 ∧ ∀ j, j < i + 1 → ¬ ((T.getD j (0, 0, 0)).1 = tkV c L y.2 ∧ (T.getD j (0, 0, 0)).2.1 = k))) → Ok (some (.inl (u', (nI i + (1 : Int32)))) : Option ((Int32 × Int32) ⊕ Int32)) (Sum.elim (fun s => s.2 = nI (i + 1) ∧ (sf = none → (∃ j, j < i + 1 ∧ (T.getD j (0, 0, 0)).1 = tkV c L y.2 ∧ (T.getD j (0, 0, 0)).2.1 = k ∧ s.1 = nI (T.getD j (0, 0, 0)).2.2) ∨ (s.1 = -1 ∧ ∀ j, j < i + 1 → ¬ ((T.getD j (0, 0, 0)).1 = tkV c L y.2 ∧ (T.getD j (0, 0, 0)).2.1 = k)))) (fun e => sf = none → (∃ j, j < nn ∧ (T.getD j (0, 0, 0)).1 = tkV c L y.2 ∧ (T.getD j (0, 0, 0)).2.1 = k ∧ e = nI (T.getD j (0, 0, 0)).2.2) ∨ (e = -1 ∧ ∀ j, j < nn → ¬ ((T.getD j (0, 0, 0)).1 = tkV c L y.2 ∧ (T.getD j (0, 0, 0)).2.1 = k)))) := fun u' h => Ok.inl ⟨nI_1 _, h⟩
    have stay : (sf = none → u = -1 → ¬ ((T.getD i (0, 0, 0)).1 = tkV c L y.2 ∧ (T.getD i (0, 0, 0)).2.1 = k)) → (sf = none → (∃ j, j < i + 1 ∧ (T.getD j (0, 0, 0)).1 = tkV c L y.2 ∧ (T.getD j (0, 0, 0)).2.1 = k ∧ u = nI (T.getD j (0, 0, 0)).2.2) ∨ (u = -1 ∧ ∀ j, j < i + 1 → ¬ ((T.getD j (0, 0, 0)).1 = tkV c L y.2 ∧ (T.getD j (0, 0, 0)).2.1 = k))) := fun h0 h => by
      rcases hI h with ⟨j, g1, g2⟩ | ⟨g1, g2⟩
      · exact Or.inl ⟨j, by omega, g2⟩
      · refine Or.inr ⟨g1, fun j hj => ?_⟩
        rcases Nat.lt_or_ge j i with g | g
        · exact g2 j g
        · have : j = i := by omega
          rw [this]; exact h0 h g1
    by_cases cu : u = -1
    case neg => exact Ok.ifF cu (nxt u (stay (fun _ z => absurd z cu)))
    refine Ok.ifT cu ?_
    apply Ok.step (rd_nI (by omega) (by decide))
    apply Ok.step (rd_nI (by omega) (by decide))
    rw [eS2, hnm]
    have eqv : sf = none → (lg_cmp (S.2 103 i) (nL (tkV c L y.2)) = 0 ↔ (T.getD i (0, 0, 0)).1 = tkV c L y.2) := fun h => by
      obtain ⟨h1, h2, h3⟩ := hN h
      rw [lg_cmp_eq, (h2 i (by omega)).1, nL_inj ((h3.1 _ (getD_mem (by omega))).1) hv63]
    refine Ok.ifC (fun z => ?_) (fun z => nxt u (stay (fun h _ g => z ((eqv h).mpr g.1))))
    apply Ok.step (rd_nI (by omega) (by decide))
    have eqs : sf = none → (S2.1 104 i = nI k ↔ (T.getD i (0, 0, 0)).2.1 = k) := fun h => by
      obtain ⟨h1, h2, h3⟩ := hN h
      have hlt := isNm_lt (h3.1 _ (getD_mem (T := T) (j := i) (by omega))).2.1
      rw [h104, (h2 i (by omega)).2.1, nI_eq (by unfold rsort; split <;> omega) (by omega)]
      exact rs _
    refine Ok.ifC (fun z2 => ?_) (fun z2 => nxt u (stay (fun h _ g => z2 ((eqs h).mpr g.2))))
    apply Ok.step (rd_nI (by omega) (by decide))
    refine nxt _ (fun h => Or.inl ⟨i, by omega, (eqv h).mp z, (eqs h).mp z2, ?_⟩)
    obtain ⟨h1, h2, h3⟩ := hN h
    rw [h105, (h2 i (by omega)).2.2]
  · rintro ⟨u, v⟩ ⟨rfl, hI⟩
    dsimp only at hI ⊢
    exact Ok.ifT (by rw [e20]; exact nI_le (Nat.le_refl _) (by omega)) (Ok.inr hI)
  · intro e hE
    -- what is known
    have what : sf = none → (∀ m, oldN (tkV c L) T k y.2 = some m → e = nI m ∧ m < cnt k) ∧ (oldN (tkV c L) T k y.2 = none → e = -1) ∧ (e = -1 → oldN (tkV c L) T k y.2 = none) := fun h => by
      obtain ⟨h1, h2, h3⟩ := hN h
      have lkj : ∀ j, j < nn → (T.getD j (0, 0, 0)).1 = tkV c L y.2 → lk T (tkV c L y.2) = some (T.getD j (0, 0, 0)) := fun j hj hv => by
        cases hl : lk T (tkV c L y.2) with
        | none => exact absurd hv (lk_none hl _ (getD_mem (by omega)))
        | some e' =>
          obtain ⟨m1, m2⟩ := lk_some hl
          obtain ⟨j', hj', hj2⟩ := mem_getD m1
          have := h3.2 j j' (by omega) hj' (by rw [hv, hj2, m2])
          rw [this, hj2]
      rcases hE h with ⟨j, g1, g2, g3, g4⟩ | ⟨g1, g2⟩
      · have eo : oldN (tkV c L) T k y.2 = some (T.getD j (0, 0, 0)).2.2 := by
          unfold oldN
          rw [lkj j g1 g2]
          exact if_pos g3
        obtain ⟨q1, q2, q3⟩ := h3.1 _ (getD_mem (T := T) (j := j) (by omega))
        have qc := hcnt _ (isNm_lt q2)
        rw [eo]
        refine ⟨fun m hm => ?_, (fun z => by cases z), fun z => ?_⟩
        · rw [← Option.some.inj hm]
          exact ⟨g4, by rw [g3] at q3; exact q3⟩
        · rw [z] at g4
          exact absurd g4.symm (nI_m1 (by omega))
      · have eo : oldN (tkV c L) T k y.2 = none := by
          unfold oldN
          cases hl : lk T (tkV c L y.2) with
          | none => rfl
          | some e' =>
            obtain ⟨m1, m2⟩ := lk_some hl
            obtain ⟨j', hj', hj2⟩ := mem_getD m1
            refine if_neg (fun z => g2 j' (by omega) ⟨by rw [hj2, m2], by rw [hj2, z]⟩)
        rw [eo]
        exact ⟨(fun m hm => by cases hm), fun _ => g1, fun _ => rfl⟩
    by_cases ce : e = -1
    · refine Ok.ifT ce ?_
      obtain ⟨S3, f3, d3, w3⟩ := r_wrong (n := n) (f := 4) (j := y.2) hT2 y2 w2.1 hw2 hw.2.2 (by decide) (by decide) (hWR.fr (fun j hj => o2 _ _ (by omega))) (fun x hx => Or.inl (hSb x hx)) hLb
      apply Ok.step (show E_X12_wrong n S2 (4 : Int32) (nI y.2) = some S3 from f3)
      refine Ok.ret ⟨(XFl_Sm d2).trans (XWr_Sm d3), y2.fr (fun j hj => d3.2 _ _ (by simp only [XWr, Bool.and_eq_false_iff, Bool.or_eq_false_iff, beq_eq_false_iff_ne]; omega)), fun _ => ⟨_, w3 c0, fun x hx => by rw [hx]; rfl, fun h => ?_⟩⟩
      obtain ⟨g1, g2, g3⟩ := what h
      refine ⟨?_, g1, g2⟩
      unfold cOld
      rw [g3 ce, h]; rfl
    · refine Ok.ifF ce (Ok.ret ⟨XFl_Sm d2, y2, fun _ => ⟨sf, hWR.fr (fun j hj => o2 _ _ (by omega)), fun x hx => hx, fun h => ?_⟩⟩)
      obtain ⟨g1, g2, g3⟩ := what h
      refine ⟨?_, g1, g2⟩
      unfold cOld
      cases ho : oldN (tkV c L) T k y.2 with
      | none => exact absurd (g2 ho) ce
      | some m => rw [h]; rfl
theorem r_next {y : Nat × Nat} {k m sd : Nat} (hk8 : k < 8) (hsd : sd < 2) (hT : RTk c L S) (hy : RY c L y S) (hw : yW (tkK c L) y) (h0 : y.1 = 0) (hk : tkK c L y.2 = k) (h19 : S.1 95 19 = nI sd) (h106 : S.1 106 (8 * sd + k) = nI m) (hm : m ≤ cmx k) : Ok (E_X12_next n S (nI k)) (fun r => Df XFl S r.2 ∧ RY c L (begY (tkK c L) k m y) r.2 ∧ (m ≠ cmx k → r.1 = nI m)) := by
  have hmx := cmx_le (k := k) (by omega)
  have hroom : ∀ k : Fin 8, E_X12_room 0 S00 (nI k.val) = some (nI (cmx k.val)) := by decide
  have er : E_X12_room n S (nI k) = some (nI (cmx k)) := hroom ⟨k, hk8⟩
  have ei : ((8 : Int32) * (S.1 95 19)) + nI k = nI (8 * sd + k) := by rw [h19, show (8 : Int32) = nI 8 from rfl, nI_mulN, nI_add]
  unfold E_X12_next
  rw [ei]
  apply Ok.step (rd_nI (by omega) (by decide))
  rw [h106]
  apply Ok.step er
  apply Ok.jnU
  unfold begY
  by_cases c1 : m = cmx k
  · refine Ok.ifT (by rw [c1]) ?_
    obtain ⟨S1, f1, d1, y1, _⟩ := r_fail (n := n) (f := 2) hT hy hw
    rw [if_pos h0] at y1
    apply Ok.step (show E_X12_fail n S (2 : Int32) = some S1 from f1)
    refine Ok.ifF (by rw [y1.1]; exact nI_nle (n := 2) (by decide) (by decide)) ?_
    rw [if_pos c1]
    exact Ok.ret ⟨d1, y1, fun z => absurd c1 z⟩
  · refine Ok.ifF (fun z => c1 ((nI_eq (by omega) (by omega)).mp z)) ?_
    refine Ok.ifT (by rw [hy.1, h0]; decide) ?_
    obtain ⟨S1, f1, d1, y1⟩ := r_goesOn (n := n) hT hy hw
    apply Ok.step f1
    rw [← tk_gy (K := tkK c L) (k := k) (fun _ => hk)] at y1
    rw [if_neg c1]
    exact Ok.ret ⟨d1, y1, fun _ => rfl⟩
theorem r_comes {y : Nat × Nat} {k m sd : Nat} (hk8 : k < 8) (hsd : sd < 2) (hT : RTk c L S) (hy : RY c L y S) (hw : yW (tkK c L) y) (h19 : S.1 95 19 = nI sd) (h106 : S.1 106 (8 * sd + k) = nI m) : Ok (E_X12_comes n S (nI k)) (fun S' => Df (XCo (8 * sd + k)) S S' ∧ RY c L (tk (tkK c L) 22 y) S' ∧ ((tk (tkK c L) 22 y).1 = 0 → S'.1 106 (8 * sd + k) = nI (m + 1)) ∧ (∀ j, j = 15 ∨ j = 16 → S'.1 95 j = S.1 95 j)) := by
  unfold E_X12_comes
  obtain ⟨S1, f1, d1, y1⟩ := r_must (n := n) (k := 22) hT hy hw (by decide)
  apply Ok.step (show E_X12_must n S (4 : Int32) = some S1 from f1)
  have w1 := tk_w (k := 22) hw (by decide)
  have o1 : ∀ a j, (a ≠ 95 ∨ (j ≠ 11 ∧ j ≠ 13 ∧ j ≠ 14)) → S1.1 a j = S.1 a j := fun a j hj => d1.2 _ _ (by simp only [XFl, Bool.and_eq_false_iff, Bool.or_eq_false_iff, beq_eq_false_iff_ne]; omega)
  have d1' : Df (XCo (8 * sd + k)) S S1 := (XFl_Sm d1).mono (fun a j hx => by
    simp only [XCo, Bool.or_eq_false_iff] at hx
    exact hx.1)
  by_cases c0 : (tk (tkK c L) 22 y).1 = 0
  case neg =>
    refine Ok.ifF (fun z => c0 ?_) (Ok.ret ⟨d1', y1, fun z => absurd z c0, fun j hj => o1 _ _ (by omega)⟩)
    rw [y1.1] at z
    have := w1.1
    exact (nI_eq (b := 0) (by omega) (by decide)).mp z
  refine Ok.ifT (by rw [y1.1, c0]; rfl) ?_
  have ei : ((8 : Int32) * (S1.1 95 19)) + nI k = nI (8 * sd + k) := by rw [o1 _ _ (by omega), h19, show (8 : Int32) = nI 8 from rfl, nI_mulN, nI_add]
  rw [ei]
  apply Ok.step (rd_nI (by omega) (by decide))
  apply Ok.step (wr_nI (by omega) (by decide))
  refine Ok.ret ⟨d1'.up (by simp [XCo]), y1.fr (fun j hj => by rw [upI_at, if_neg (by omega)]), fun _ => ?_, fun j hj => ?_⟩
  · rw [upI_at, if_pos ⟨rfl, rfl⟩, o1 _ _ (by omega), h106, nI_1]
  · rw [upI_at, if_neg (by omega)]; exact o1 _ _ (by omega)
theorem r_notes {y : Nat × Nat} {j s nn : Nat} {w : Int32} (hT : RTk c L S) (hy : RY c L y S) (hw1 : y.1 ≤ 2) (hj : j ≤ 400) (h20 : S.1 95 20 = nI nn) (hnn : y.1 = 0 → nn < 32 ∧ (∀ i, i < j → tkK c L i ≠ 35) ∧ tkK c L j = 20) : Ok (E_X12_notes n S (nI j) (nI s) w) (fun S' => D2 (XNo nn) YNo S S' ∧ (y.1 = 0 → S'.1 95 20 = nI (nn + 1) ∧ S'.2 103 nn = nL (tkV c L j) ∧ S'.1 104 nn = nI s ∧ S'.1 105 nn = w ∧ ∀ i, i ≠ nn → S'.2 103 i = S.2 103 i) ∧ (y.1 ≠ 0 → S' = S)) := by
  unfold E_X12_notes
  by_cases c0 : y.1 = 0
  case neg =>
    refine Ok.ifF ?_ (Ok.ret ⟨D2.refl _ _ _, fun z => absurd z c0, fun _ => rfl⟩)
    rw [hy.1]
    exact nI_nle (by omega) (by omega)
  refine Ok.ifT (by rw [hy.1, c0]; decide) ?_
  obtain ⟨hn1, hn2, hn3⟩ := hnn c0
  apply Ok.step (rd_nI (by omega) (by decide))
  rw [(hT j hj hn2).2.2.2 hn3, h20]
  apply Ok.step (wrl_nI (by omega) (by decide))
  rw [upL_1, h20]
  apply Ok.step (wr_nI (by omega) (by decide))
  rw [upI_at, if_neg (by omega), upL_1, h20]
  apply Ok.step (wr_nI (by omega) (by decide))
  apply Ok.letsU
  have x4 : XNo nn 104 nn = true := by simp [XNo]
  have x5 : XNo nn 105 nn = true := by simp [XNo]
  refine Ok.ret ⟨((((D2.refl _ _ _).upl rfl).up x4).up x5).up rfl, fun _ => ⟨?_, ?_, ?_, ?_, fun i hi => ?_⟩, fun z => absurd c0 z⟩
  · rw [upI_at, if_pos ⟨rfl, rfl⟩, upI_at, if_neg (by omega), upI_at, if_neg (by omega), upL_1, h20, nI_1]
  · show (upL S 103 nn _).2 103 nn = _
    rw [upL_at, if_pos ⟨rfl, rfl⟩]
  · rw [upI_at, if_neg (by omega), upI_at, if_neg (by omega), upI_at, if_pos ⟨rfl, rfl⟩]
  · rw [upI_at, if_neg (by omega), upI_at, if_pos ⟨rfl, rfl⟩]
  · show (upL S 103 nn _).2 103 i = _
    rw [upL_at, if_neg (by omega)]
end RKN
