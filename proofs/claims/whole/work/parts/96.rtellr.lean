/-! ===== the reference is told: laws ===== -/
section RTR
variable {n L sd so : Nat} {c : Nat → Nat} {S S' : ST}
theorem LwR.fr {ls : List LT} {r lt cb : Nat} (h : LwR ls r lt cb S) (e : S'.1 126 r = S.1 126 r ∧ S'.1 127 r = S.1 127 r) (e1 : ∀ a j, 128 ≤ a → a ≤ 133 → j < lt + ls.length → S'.1 a j = S.1 a j) (e2 : ∀ a j, a = 134 ∨ a = 135 → j < cb + cdt ls → S'.1 a j = S.1 a j) : LwR ls r lt cb S' := by
  obtain ⟨h1, h2, h3⟩ := h
  exact ⟨by rw [e.1]; exact h1, by rw [e.2]; exact h2, h3.fr e1 e2⟩
theorem r_tellL {Y : SY} {M : SM} (hn : 30000 ≤ n) (hT : RTk c L S) (hsd : sd < 2) (h : RRt c L sd Y M S) (h0 : Y.1.1 = 0) (hso : so < 2) (hk : tkK c L Y.1.2 = 9 + so) :
    Ok (E_X12_tellLaw n S (nI so)) (fun S' => (∃ lt cb, 150 * sd ≤ lt ∧ 420 * sd ≤ cb ∧ Y.2.1 (9 + so) ≤ 4 ∧ Df (XLaw (150 * sd + 150) (420 * sd + 420) (8 * sd + 4 * so + Y.2.1 (9 + so)) (2 * sd + so) lt cb) S S') ∧ RRt c L sd (syT (tkK c L) (tkV c L) Y) (seT (tkK c L) (tkV c L) Y.2.1 Y.1.2 M) S') := by
  obtain ⟨hy0, hw, h19, hd⟩ := h
  obtain ⟨hcm, hcr, h20, ⟨lt, cb, l1, l2, l3, l4, l5, l6, l7, l8⟩, hwr, hsb, htb⟩ := hd h0
  have hm4 : Y.2.1 (9 + so) ≤ 4 := by have := hcm (9 + so) (by omega); rw [cmx_law hso] at this; exact this
  obtain ⟨S1, f1, q, hr, hdn, ⟨b0, hQ⟩, y1, d1, g1⟩ := r_tellLaw (n := n) (m := Y.2.1 (9 + so)) hn hT hy0 hw h0 hk hso hsd h19 hm4 (hcr.2.2 so hso) l1 l2 l3 l5 l7
  refine ⟨S1, f1, ⟨lt, cb, l4, l6, hm4, d1⟩, ?_⟩
  have ebeg : (if Y.2.1 (9 + so) = 4 then (2, Y.1.2) else tk (tkK c L) (9 + so) Y.1) = begY (tkK c L) (9 + so) (Y.2.1 (9 + so)) Y.1 := by
    unfold begY
    rw [cmx_law hso]
  rw [ebeg] at hr
  have wb : yW (tkK c L) (begY (tkK c L) (9 + so) (Y.2.1 (9 + so)) Y.1) := begY_w hw (by omega)
  have eq : lawQ (tkK c L) (tkV c L) (begY (tkK c L) (9 + so) (Y.2.1 (9 + so)) Y.1) = q := crun_of (CQI.init (tk_w wb (by decide))) hr hdn
  have etY : tY (tkK c L) (tkV c L) (9 + so) (Y.2.1 (9 + so)) Y.1 = tk (tkK c L) 22 q.y := by
    unfold tY
    rw [pfx_law (by omega), eq]
  have e1 : syT (tkK c L) (tkV c L) Y = (tk (tkK c L) 22 q.y, upN Y.2.1 (9 + so) (Y.2.1 (9 + so) + 1), upN Y.2.2.1 so (Y.2.2.1 so ++ [cfL q]), upN Y.2.2.2 so (Y.2.2.2 so ++ [cfE q])) := by
    unfold syT
    rw [hk, if_pos (by omega), if_pos (by omega), if_pos (by omega), etY, eq, show 9 + so - 9 = so by omega]
  have eM : seT (tkK c L) (tkV c L) Y.2.1 Y.1.2 M = M := by
    unfold seT
    cases hM : M.2.2 with
    | some x => rw [if_pos (by rfl)]
    | none =>
      have hF : semF (tkK c L) (tkV c L) M.1 (9 + so) Y.1.2 = none := by
        unfold semF
        rw [if_neg (by omega), if_neg (by omega), if_neg (by omega), if_neg (by omega), if_neg (by omega), if_neg (by omega), if_neg (by omega), if_neg (by omega), if_neg (by omega)]
      have hnm : isNm (9 + so) = false := by
        have : ∀ s : Fin 2, isNm (9 + s.val) = false := by decide
        exact this ⟨so, hso⟩
      have hW : semW (tkK c L) (tkV c L) M.1 (9 + so) (Y.2.1 (9 + so)) Y.1.2 M.2.1 = M.2.1 := by
        unfold semW
        rw [if_neg (by omega), if_neg (by omega), if_neg (by omega), if_neg (by omega), if_neg (by omega), if_neg (by omega), if_neg (by omega), if_neg (by omega)]
      rw [if_neg (by decide), hk, hF, if_neg (by decide), hW]
      unfold semT
      rw [if_neg (by rw [hnm]; decide), ← hM]
  rw [e1, eM]
  -- cells that stay
  have st : ∀ a j, ((a = 95 ∧ j ≠ 11 ∧ j ≠ 12 ∧ j ≠ 13 ∧ j ≠ 14 ∧ j ≠ 46 ∧ j ≠ 53 ∧ j ≠ 57) ∨ (95 < a ∧ a < 125) ∨ (a = 125 ∧ j ≠ 2 * sd + so) ∨ ((a = 126 ∨ a = 127) ∧ j ≠ 8 * sd + 4 * so + Y.2.1 (9 + so)) ∨ (128 ≤ a ∧ a ≤ 133 ∧ j < lt) ∨ ((a = 134 ∨ a = 135) ∧ j < cb)) → S1.1 a j = S.1 a j := fun a j hx => d1.2 _ _ (by
    simp only [XLaw, XLt, Bool.or_eq_false_iff, Bool.and_eq_false_iff, beq_eq_false_iff_ne, decide_eq_false_iff_not]
    omega)
  refine ⟨y1, tk_w hQ.1 (by decide), by rw [st _ _ (by omega)]; exact h19, fun z => ?_⟩
  obtain ⟨m4, p1, p2, p3, p4, p5, p6, p7⟩ := g1 z
  obtain ⟨z1, z2, z3, z4⟩ := tk_0 z
  have ey : (tk (tkK c L) 22 q.y).2 = q.y.2 + 1 := by rw [z4]
  dsimp only
  refine ⟨fun j hj => ?_, ⟨fun j hj => ?_, ?_, fun s hs => ?_⟩, ?_, ?_, ?_, ?_, ?_⟩
  · by_cases e : j = 9 + so
    · rw [e, upN_s, cmx_law hso]; omega
    · rw [upN_n e]; exact hcm j hj
  · rw [upN_n (by omega), st _ _ (by omega)]; exact hcr.1 j hj
  · rw [upN_n (by omega), st _ _ (by omega)]; exact hcr.2.1
  · by_cases e : s = so
    · rw [e, upN_s]; exact p1
    · rw [upN_n (by omega), st _ _ (by omega)]; exact hcr.2.2 s hs
  · have : nmN (upN Y.2.1 (9 + so) (Y.2.1 (9 + so) + 1)) = nmN Y.2.1 := by
      unfold nmN
      rw [upN_n (by omega), upN_n (by omega), upN_n (by omega), upN_n (by omega), upN_n (by omega)]
    rw [this, st _ _ (by omega)]; exact h20
  · refine ⟨lt + (cfL q).length, cb + cdt (cfL q), p2, p3, p4, by omega, ?_, by omega, ?_, fun s hs => ?_⟩
    · dsimp only; rw [ey]; omega
    · dsimp only; rw [ey]; omega
    · dsimp only
      by_cases e : s = so
      · subst e
        obtain ⟨r1, r2⟩ := l8 s hs
        rw [upN_s, upN_s]
        refine ⟨by rw [List.length_append, r1]; rfl, fun i hi => ?_⟩
        by_cases ei : i = Y.2.1 (9 + s)
        · rw [ei, ← r1, getD_last, r1]
          exact ⟨lt, cb, l4, l6, Nat.le_refl _, Nat.le_refl _, p5⟩
        · rw [getD_app (by omega)]
          obtain ⟨l0, c0, b1, b2, b3, b4, b5⟩ := r2 i (by omega)
          exact ⟨l0, c0, b1, b2, by omega, by omega, b5.fr ⟨st _ _ (by omega), st _ _ (by omega)⟩ (fun a j h1 h2 h3 => st _ _ (by omega)) (fun a j h1 h2 => st _ _ (by omega))⟩
      · obtain ⟨r1, r2⟩ := l8 s hs
        have hm4s : Y.2.1 (9 + s) ≤ 4 := by have := hcm (9 + s) (by omega); rw [cmx_law hs] at this; exact this
        rw [upN_n e, upN_n (by omega)]
        refine ⟨r1, fun i hi => ?_⟩
        obtain ⟨l0, c0, b1, b2, b3, b4, b5⟩ := r2 i hi
        exact ⟨l0, c0, b1, b2, by omega, by omega, b5.fr ⟨st _ _ (by omega), st _ _ (by omega)⟩ (fun a j h1 h2 h3 => st _ _ (by omega)) (fun a j h1 h2 => st _ _ (by omega))⟩
  · exact hwr.fr (fun j hj => st _ _ (by omega))
  · refine hsb.mono ?_
    have := tY_lt (V := tkV c L) (m := Y.2.1 (9 + so)) hw (by omega : 9 + so < 11) (by rw [etY]; exact z)
    rw [etY] at this
    omega
  · intro hM
    obtain ⟨t1, t2, t3, t4⟩ := htb hM
    have hnn : nmN (upN Y.2.1 (9 + so) (Y.2.1 (9 + so) + 1)) = nmN Y.2.1 := by
      unfold nmN
      rw [upN_n (by omega), upN_n (by omega), upN_n (by omega), upN_n (by omega), upN_n (by omega)]
    refine ⟨by rw [hnn]; exact t1, t2.fr (by rw [d1.1]) (fun a j ha => st _ _ (by omega)), ⟨fun e he => ?_, t3.2⟩, fun qq hq j hj => ?_⟩
    · obtain ⟨q1, q2, q3⟩ := t3.1 e he
      refine ⟨q1, q2, ?_⟩
      have hne : e.2.1 ≠ 9 + so := fun z => by
        simp only [isNm, Bool.or_eq_true, beq_iff_eq] at q2
        omega
      rw [upN_n hne]; exact q3
    · obtain ⟨q1, q2, q3, q4, q5, q6, q7, q8⟩ := TW_ok qq hq
      rw [upN_n (by omega)] at hj
      rw [st _ _ (by omega)]
      exact t4 qq hq j hj
end RTR
