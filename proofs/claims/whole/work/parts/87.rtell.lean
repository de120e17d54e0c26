/-! ===== the reference is told: what holds between two tells ===== -/
def capR (a : Nat) : Nat := ([10, 10, 6, 8, 8, 20, 20, 20, 20, 12, 12, 12, 12, 12, 6, 6, 4] : List Nat).getD (a - 108) 0
def rowK (a : Nat) : Nat := ([1, 1, 2, 3, 3, 4, 4, 4, 4, 5, 5, 6, 6, 6, 7, 7, 8] : List Nat).getD (a - 108) 0
def nmN (cnt : Nat → Nat) : Nat := cnt 0 + cnt 1 + cnt 2 + cnt 7 + cnt 8
def CnR (sd : Nat) (cnt : Nat → Nat) (S : ST) : Prop := (∀ k, k < 8 → S.1 106 (8 * sd + k) = nI (cnt k)) ∧ S.1 107 sd = nI (cnt 8) ∧ ∀ s, s < 2 → S.1 125 (2 * sd + s) = nI (cnt (9 + s))
def RWt (W : VW) (cnt : Nat → Nat) (sd : Nat) (S : ST) : Prop := ∀ q ∈ TW, ∀ k, k < cnt q.2.2.2 → S.1 q.2.1 (q.2.2.1 * sd + k) = nI (W q.1 k)
/-- the laws so far, by the reference -/
def LwsR (sd : Nat) (Y : SY) (S : ST) : Prop := ∃ lt cb, S.1 95 12 = 0 ∧ S.1 95 46 = nI lt ∧ S.1 95 53 = nI cb ∧ 150 * sd ≤ lt ∧ 3 * lt ≤ 450 * sd + Y.1.2 ∧ 420 * sd ≤ cb ∧ cb ≤ 420 * sd + Y.1.2 ∧ ∀ s, s < 2 → (Y.2.2.1 s).length = Y.2.1 (9 + s) ∧ ∀ i, i < Y.2.1 (9 + s) → ∃ l0 c0, 150 * sd ≤ l0 ∧ 420 * sd ≤ c0 ∧ l0 + ((Y.2.2.1 s).getD i []).length ≤ lt ∧ c0 + cdt ((Y.2.2.1 s).getD i []) ≤ cb ∧ LwR ((Y.2.2.1 s).getD i []) (8 * sd + 4 * s + i) l0 c0 S
def RRt (c : Nat → Nat) (L sd : Nat) (Y : SY) (M : SM) (S : ST) : Prop := RY c L Y.1 S ∧ yW (tkK c L) Y.1 ∧ S.1 95 19 = nI sd ∧ (Y.1.1 = 0 → (∀ k, k < 11 → Y.2.1 k ≤ cmx k) ∧ CnR sd Y.2.1 S ∧ S.1 95 20 = nI (nmN Y.2.1) ∧ LwsR sd Y S ∧ WR c L M.2.2 S ∧ SFb M.2.2 Y.1.2 ∧ (M.2.2 = none → M.1.length = nmN Y.2.1 ∧ NTR M.1 S ∧ NTw Y.2.1 M.1 ∧ RWt M.2.1 Y.2.1 sd S))
/-- where the count of a kind is -/
def cA (k : Nat) : Nat := if k = 8 then 107 else 106
def cJ (sd k : Nat) : Nat := if k = 8 then sd else 8 * sd + k
theorem cA_or {sd k : Nat} (h : k < 9) : (k = 8 ∧ cA k = 107 ∧ cJ sd k = sd) ∨ (k < 8 ∧ cA k = 106 ∧ cJ sd k = 8 * sd + k) := by
  by_cases e : k = 8
  · exact Or.inl ⟨e, if_pos e, if_pos e⟩
  · exact Or.inr ⟨by omega, if_neg e, if_neg e⟩
/-- cells that a tell of a kind changes -/
def XTs (sd k m nn a j : Nat) : Bool := XSm a j || ((a == cA k && j == cJ sd k) || ((isNm k && XNo nn a j) || (decide (108 ≤ a ∧ a ≤ 124) && (rowK a == k && (j == capR a * sd + m && decide (m < capR a))))))
theorem TW_ok : ∀ q ∈ TW, (108 ≤ q.2.1 ∧ q.2.1 ≤ 124) ∧ rowK q.2.1 = q.2.2.2 ∧ capR q.2.1 = q.2.2.1 ∧ 1 ≤ q.1 ∧ q.1 ≤ 17 ∧ 1 ≤ q.2.2.2 ∧ q.2.2.2 ≤ 8 ∧ cmx q.2.2.2 = q.2.2.1 := by decide
theorem wS_n {W : VW} {r m v a j : Nat} (h : a ≠ r ∨ j ≠ m) : wS W r m v a j = W a j := if_neg (by omega)
theorem wS_s {W : VW} {r m v : Nat} : wS W r m v r m = v := if_pos ⟨rfl, rfl⟩
theorem semW_ne {K V : Nat → Nat} {T : NTb} {k m i : Nat} {W : VW} {a j : Nat} (h : j ≠ m) : semW K V T k m i W a j = W a j := by
  unfold semW
  repeat' split
  all_goals simp only [wS_n (Or.inr h)]
theorem semW_row {K V : Nat → Nat} {T : NTb} {k m i : Nat} {W : VW} {j : Nat} : ∀ q ∈ TW, q.2.2.2 ≠ k → semW K V T k m i W q.1 j = W q.1 j := by
  intro q hq hk
  simp only [TW, List.mem_cons, List.not_mem_nil, or_false] at hq
  rcases hq with h | h | h | h | h | h | h | h | h | h | h | h | h | h | h | h | h
  all_goals
    subst h
    dsimp only at hk ⊢
    unfold semW
    repeat' split
    all_goals first | omega | rfl | (repeat rw [wS_n (Or.inl (by omega))])
theorem nmN_up {cnt : Nat → Nat} {k : Nat} (hk : k < 11) : nmN (upN cnt k (cnt k + 1)) = if isNm k = true then nmN cnt + 1 else nmN cnt := by
  have : k = 0 ∨ k = 1 ∨ k = 2 ∨ k = 3 ∨ k = 4 ∨ k = 5 ∨ k = 6 ∨ k = 7 ∨ k = 8 ∨ k = 9 ∨ k = 10 := by omega
  unfold nmN upN
  rcases this with h | h | h | h | h | h | h | h | h | h | h
  all_goals
    subst h
    simp [isNm]
    try omega
theorem semF_nm {K V : Nat → Nat} {T : NTb} {k i : Nat} (hk : isNm k = true) (h : semF K V T k i = none) : lk T (V (i + 1)) = none := by
  have hc : cNew V T (i + 1) = none := by
    have o : ∀ {a b : SF}, orF a b = none → a = none := fun {a b} z => by cases a with
      | none => rfl
      | some x => cases z
    simp only [isNm, Bool.or_eq_true, beq_iff_eq] at hk
    unfold semF at h
    rcases hk with z | z | z | z | z
    all_goals
      subst z
      first | exact h | exact o h
  unfold cNew at hc
  cases hl : lk T (V (i + 1)) with
  | none => rfl
  | some e => rw [hl] at hc; cases hc
section RTE
variable {n L sd : Nat} {c : Nat → Nat} {S S' : ST}
theorem RRt.finG {Y : SY} {M : SM} {k : Nat} (h : RRt c L sd Y M S) (h0 : Y.1.1 = 0) (hk : tkK c L Y.1.2 = k) (hk8 : k < 9) (hsd : sd < 2) (d : D2 (XTs sd k (Y.2.1 k) (nmN Y.2.1)) YNo S S') (hy : RY c L (tY (tkK c L) (tkV c L) k (Y.2.1 k) Y.1) S')
    (hs : (tY (tkK c L) (tkV c L) k (Y.2.1 k) Y.1).1 = 0 → S'.1 (cA k) (cJ sd k) = nI (Y.2.1 k + 1) ∧ (isNm k = true → S'.1 95 20 = nI (nmN Y.2.1 + 1) ∧ S'.2 103 (nmN Y.2.1) = nL (tkV c L (Y.1.2 + 1)) ∧ S'.1 104 (nmN Y.2.1) = nI (rsort k) ∧ S'.1 105 (nmN Y.2.1) = nI (Y.2.1 k) ∧ ∀ i, i ≠ nmN Y.2.1 → S'.2 103 i = S.2 103 i) ∧ (isNm k = false → S'.2 103 = S.2 103) ∧ WR c L (orF M.2.2 (semF (tkK c L) (tkV c L) M.1 k Y.1.2)) S' ∧ SFb (orF M.2.2 (semF (tkK c L) (tkV c L) M.1 k Y.1.2)) (tY (tkK c L) (tkV c L) k (Y.2.1 k) Y.1).2 ∧ (M.2.2 = none → semF (tkK c L) (tkV c L) M.1 k Y.1.2 = none → ∀ q ∈ TW, q.2.2.2 = k → S'.1 q.2.1 (q.2.2.1 * sd + Y.2.1 k) = nI (semW (tkK c L) (tkV c L) M.1 k (Y.2.1 k) Y.1.2 M.2.1 q.1 (Y.2.1 k)))) :
    RRt c L sd (syT (tkK c L) (tkV c L) Y) (seT (tkK c L) (tkV c L) Y.2.1 Y.1.2 M) S' := by
  obtain ⟨hy0, hw, h19, hd⟩ := h
  obtain ⟨hcm, hcr, h20, hlw, hwr, hsb, htb⟩ := hd h0
  have hc := cA_or (sd := sd) hk8
  have e1 : syT (tkK c L) (tkV c L) Y = (tY (tkK c L) (tkV c L) k (Y.2.1 k) Y.1, upN Y.2.1 k (Y.2.1 k + 1), Y.2.2.1, Y.2.2.2) := by
    unfold syT
    rw [hk, if_pos (by omega), if_neg (by omega), if_neg (by omega)]
  rw [e1]
  -- cells that stay
  have st : ∀ a j, (a < 95 ∨ (a = 95 ∧ j ≠ 11 ∧ j ≠ 13 ∧ j ≠ 14 ∧ j ≠ 15 ∧ j ≠ 16 ∧ j ≠ 20) ∨ (95 < a ∧ a ≠ 104 ∧ a ≠ 105 ∧ (a < 108 ∨ 124 < a) ∧ (a ≠ cA k ∨ j ≠ cJ sd k))) → S'.1 a j = S.1 a j := fun a j hx => d.2 _ _ (by
    simp only [XTs, XSm, XNo, Bool.or_eq_false_iff, Bool.and_eq_false_iff, beq_eq_false_iff_ne, decide_eq_false_iff_not]
    omega)
  have hK11 : k < 11 := by omega
  refine ⟨hy, tY_w hw hK11, by rw [st _ _ (by omega)]; exact h19, fun z => ?_⟩
  obtain ⟨f1, f2, f3, f4, f5, f6⟩ := hs z
  obtain ⟨t1, t2, t3, t4, t5, t6⟩ := tY_lt hw hK11 z
  have hm := hcm k hK11
  dsimp only
  refine ⟨fun j hj => ?_, ⟨fun j hj => ?_, ?_, fun s hs2 => ?_⟩, ?_, ?_, ?_, ?_, ?_⟩
  · by_cases e : j = k
    · rw [e, upN_s]; omega
    · rw [upN_n e]; exact hcm j hj
  · by_cases e : j = k
    · rcases hc with ⟨q, _⟩ | ⟨_, q1, q2⟩
      · omega
      · rw [q1, q2] at f1
        rw [e, upN_s]; exact f1
    · rw [upN_n e, st _ _ (by omega)]; exact hcr.1 j hj
  · by_cases e : k = 8
    · rcases hc with ⟨_, q1, q2⟩ | ⟨q, _⟩
      · rw [q1, q2] at f1
        rw [← e, upN_s]; exact f1
      · omega
    · rw [upN_n (by omega), st _ _ (by omega)]; exact hcr.2.1
  · rw [upN_n (by omega), st _ _ (by omega)]; exact hcr.2.2 s hs2
  · rw [nmN_up hK11]
    cases hn : isNm k with
    | true => rw [if_pos rfl]; exact (f2 hn).1
    | false =>
      rw [if_neg (by decide), d.2 95 20 (by rw [XTs, hn]; simp [XSm]; intro z; omega)]
      exact h20
  · obtain ⟨lt, cb, l1, l2, l3, l4, l5, l6, l7, l8⟩ := hlw
    refine ⟨lt, cb, by rw [st _ _ (by omega)]; exact l1, by rw [st _ _ (by omega)]; exact l2, by rw [st _ _ (by omega)]; exact l3, l4, ?_, l6, ?_, fun s hs2 => ?_⟩
    · dsimp only; omega
    · dsimp only; omega
    · dsimp only
      rw [upN_n (by omega)]
      obtain ⟨g1, g2⟩ := l8 s hs2
      refine ⟨g1, fun i hi => ?_⟩
      obtain ⟨l0, c0, b1, b2, b3, b4, b5, b6, b7⟩ := g2 i hi
      exact ⟨l0, c0, b1, b2, b3, b4, by rw [st _ _ (by omega)]; exact b5, by rw [st _ _ (by omega)]; exact b6, b7.fr (fun a j _ _ _ => st _ _ (by omega)) (fun a j _ _ => st _ _ (by omega))⟩
  · -- the first fault
    unfold seT
    cases hM : M.2.2 with
    | some x =>
      rw [if_pos (by rfl), hM]
      rw [hM] at f4
      exact f4
    | none =>
      rw [hM] at f4
      rw [if_neg (by decide), hk]
      cases hF : semF (tkK c L) (tkV c L) M.1 k Y.1.2 with
      | some x =>
        rw [hF] at f4
        rw [if_pos (by rfl)]
        exact f4
      | none =>
        rw [hF] at f4
        rw [if_neg (by decide)]
        exact f4
  · unfold seT
    cases hM : M.2.2 with
    | some x =>
      rw [if_pos (by rfl), hM]
      rw [hM] at f5
      exact f5
    | none =>
      rw [hM] at f5
      rw [if_neg (by decide), hk]
      cases hF : semF (tkK c L) (tkV c L) M.1 k Y.1.2 with
      | some x =>
        rw [hF] at f5
        rw [if_pos (by rfl)]
        exact f5
      | none =>
        rw [hF] at f5
        rw [if_neg (by decide)]
        exact f5
  · intro hsf
    have hM : M.2.2 = none := by
      cases hM : M.2.2 with
      | none => rfl
      | some x =>
        unfold seT at hsf
        rw [hM, if_pos (by rfl), hM] at hsf
        cases hsf
    have hF : semF (tkK c L) (tkV c L) M.1 k Y.1.2 = none := by
      cases hF : semF (tkK c L) (tkV c L) M.1 k Y.1.2 with
      | none => rfl
      | some x =>
        unfold seT at hsf
        rw [hM, if_neg (by decide), hk, hF, if_pos (by rfl)] at hsf
        cases hsf
    have eM : seT (tkK c L) (tkV c L) Y.2.1 Y.1.2 M = (semT (tkV c L) M.1 k (Y.2.1 k) Y.1.2, semW (tkK c L) (tkV c L) M.1 k (Y.2.1 k) Y.1.2 M.2.1, none) := by
      unfold seT
      rw [hM, if_neg (by decide), hk, hF, if_neg (by decide)]
    rw [eM]
    dsimp only
    obtain ⟨h1, h2, h3, h4⟩ := htb hM
    refine ⟨?_, ?_, ?_, ?_⟩
    · rw [nmN_up hK11]
      unfold semT
      cases hn : isNm k with
      | true => rw [if_pos rfl, if_pos rfl, List.length_append, h1]; rfl
      | false => rw [if_neg (by decide), if_neg (by decide)]; exact h1
    · unfold semT
      cases hn : isNm k with
      | true =>
        rw [if_pos rfl]
        obtain ⟨g1, g2, g3, g4, g5⟩ := f2 hn
        intro j hj
        rw [List.length_append] at hj
        by_cases e : j = M.1.length
        · rw [e, getD_last, h1]
          exact ⟨g2, g3, g4⟩
        · have hj2 : j < M.1.length := by
            simp only [List.length_cons, List.length_nil] at hj
            omega
          rw [getD_app hj2, g5 j (by omega), d.2 104 j (by simp only [XTs, XSm, XNo, Bool.or_eq_false_iff, Bool.and_eq_false_iff, beq_eq_false_iff_ne, decide_eq_false_iff_not]; omega), d.2 105 j (by simp only [XTs, XSm, XNo, Bool.or_eq_false_iff, Bool.and_eq_false_iff, beq_eq_false_iff_ne, decide_eq_false_iff_not]; omega)]
          exact h2 j hj2
      | false =>
        rw [if_neg (by decide)]
        intro j hj
        rw [f3 hn, d.2 104 j (by rw [XTs, hn]; simp [XSm]; intro z; omega), d.2 105 j (by rw [XTs, hn]; simp [XSm]; intro z; omega)]
        exact h2 j hj
    · have up : ∀ a, Y.2.1 a ≤ upN Y.2.1 k (Y.2.1 k + 1) a := fun a => by
        by_cases e : a = k
        · rw [e, upN_s]; omega
        · rw [upN_n e]; exact Nat.le_refl _
      unfold semT
      cases hn : isNm k with
      | true =>
        rw [if_pos rfl]
        have hl := lk_none (semF_nm hn hF)
        refine ⟨fun e he => ?_, fun a b ha hb hab => ?_⟩
        · rcases List.mem_append.mp he with he | he
          · obtain ⟨g1, g2, g3⟩ := h3.1 e he
            exact ⟨g1, g2, Nat.lt_of_lt_of_le g3 (up _)⟩
          · rw [List.mem_singleton.mp he]
            exact ⟨tkV_63, hn, by show Y.2.1 k < upN Y.2.1 k (Y.2.1 k + 1) k; rw [upN_s]; omega⟩
        · rw [List.length_append] at ha hb
          simp only [List.length_cons, List.length_nil] at ha hb
          by_cases ea : a = M.1.length
          · by_cases eb : b = M.1.length
            · omega
            · rw [ea, getD_last, getD_app (by omega)] at hab
              exact absurd hab.symm (hl _ (getD_mem (by omega)))
          · by_cases eb : b = M.1.length
            · rw [eb, getD_last, getD_app (by omega)] at hab
              exact absurd hab (hl _ (getD_mem (by omega)))
            · rw [getD_app (by omega), getD_app (by omega)] at hab
              exact h3.2 a b (by omega) (by omega) hab
      | false =>
        rw [if_neg (by decide)]
        refine ⟨fun e he => ?_, h3.2⟩
        obtain ⟨g1, g2, g3⟩ := h3.1 e he
        exact ⟨g1, g2, Nat.lt_of_lt_of_le g3 (up _)⟩
    · intro q hq j hj
      obtain ⟨q1, q2, q3, q4, q5, q6, q7, q8⟩ := TW_ok q hq
      have cell : (q.2.2.2 ≠ k ∨ j ≠ Y.2.1 k) → S'.1 q.2.1 (q.2.2.1 * sd + j) = S.1 q.2.1 (q.2.2.1 * sd + j) := fun hne => d.2 _ _ (by
        simp only [XTs, XSm, XNo, Bool.or_eq_false_iff, Bool.and_eq_false_iff, beq_eq_false_iff_ne, decide_eq_false_iff_not]
        rw [q2, q3]
        refine ⟨by omega, by omega, by omega, Or.inr ?_⟩
        rcases hne with h | h
        · exact Or.inl h
        · right; omega)
      by_cases e : q.2.2.2 = k
      · rw [e, upN_s] at hj
        by_cases e2 : j = Y.2.1 k
        · rw [e2]; exact f6 hM hF q hq e
        · rw [cell (Or.inr e2), semW_ne e2]
          exact h4 q hq j (by rw [e]; omega)
      · rw [upN_n e] at hj
        rw [cell (Or.inl e), semW_row q hq e]
        exact h4 q hq j hj
theorem RRt.fin {Y : SY} {M : SM} {k : Nat} (h : RRt c L sd Y M S) (h0 : Y.1.1 = 0) (hk : tkK c L Y.1.2 = k) (hk8 : k < 8) (hsd : sd < 2) (d : D2 (XTs sd k (Y.2.1 k) (nmN Y.2.1)) YNo S S') (hy : RY c L (tY (tkK c L) (tkV c L) k (Y.2.1 k) Y.1) S')
    (hs : (tY (tkK c L) (tkV c L) k (Y.2.1 k) Y.1).1 = 0 → S'.1 106 (8 * sd + k) = nI (Y.2.1 k + 1) ∧ (isNm k = true → S'.1 95 20 = nI (nmN Y.2.1 + 1) ∧ S'.2 103 (nmN Y.2.1) = nL (tkV c L (Y.1.2 + 1)) ∧ S'.1 104 (nmN Y.2.1) = nI (rsort k) ∧ S'.1 105 (nmN Y.2.1) = nI (Y.2.1 k) ∧ ∀ i, i ≠ nmN Y.2.1 → S'.2 103 i = S.2 103 i) ∧ (isNm k = false → S'.2 103 = S.2 103) ∧ WR c L (orF M.2.2 (semF (tkK c L) (tkV c L) M.1 k Y.1.2)) S' ∧ SFb (orF M.2.2 (semF (tkK c L) (tkV c L) M.1 k Y.1.2)) (tY (tkK c L) (tkV c L) k (Y.2.1 k) Y.1).2 ∧ (M.2.2 = none → semF (tkK c L) (tkV c L) M.1 k Y.1.2 = none → ∀ q ∈ TW, q.2.2.2 = k → S'.1 q.2.1 (q.2.2.1 * sd + Y.2.1 k) = nI (semW (tkK c L) (tkV c L) M.1 k (Y.2.1 k) Y.1.2 M.2.1 q.1 (Y.2.1 k)))) :
    RRt c L sd (syT (tkK c L) (tkV c L) Y) (seT (tkK c L) (tkV c L) Y.2.1 Y.1.2 M) S' := by
  refine h.finG h0 hk (by omega) hsd d hy (fun z => ?_)
  obtain ⟨f1, f2⟩ := hs z
  rcases cA_or (sd := sd) (k := k) (by omega) with ⟨q, _⟩ | ⟨_, q1, q2⟩
  · omega
  · rw [q1, q2]; exact ⟨f1, f2⟩
end RTE
