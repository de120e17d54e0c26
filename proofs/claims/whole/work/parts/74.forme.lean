/-! ===== the class goes through a condition: all of it ===== -/
theorem cfE_st {q : CQ} {how : Nat} {li : CD} (hs : SK q.s) (h0 : opn q.s = 0) (hlf : q.lf = some (how, li)) : cfE q = stS q ++ opsC (flS q) := by
  have ra := (rel_all hs h0 (t := 1) (by decide)).1
  rw [stS_q, flS_q, lowS_q, hlf]
  unfold cfE litS lfC lfS
  rw [hlf, ra, opsC_app]
  show _ = _ ++ (_ ++ ((28 + how, 0) :: opsC (List.replicate q.ng 15 ++ (onS q.pA 14 ++ onS q.pO 13))))
  rw [opsC_app, opsC_app, opsC_rep, opsC_and, opsC_or]
  simp only [List.append_assoc, List.cons_append]
theorem fl_all {q : CQ} {how : Nat} {li : CD} (hs : SK q.s) (h0 : opn q.s = 0) (hq : ∀ how l, q.lf = some (how, l) → how ≤ 3 ∧ wfC 16 l 0 1) (hlf : q.lf = some (how, li)) : relO 1 (flS q) = flS q ∧ relR 1 (flS q) = [] := by
  have ra := (rel_all hs h0 (t := 1) (by decide)).1
  have h1 : ∀ k ∈ flS q, 1 ≤ tg k := fun k hk => by
    rcases List.mem_append.mp hk with h | h
    · rw [← ra] at h
      have := tg_op (relO_ops (by decide) hs k h); omega
    · exact (tg_low (low_mem hq k h)).1
  have := relA (b := []) h1
  rw [List.append_nil] at this
  exact ⟨by rw [this.1]; exact List.append_nil _, this.2⟩
section CFE
variable {n L l N0 : Nat} {c : Nat → Nat} {S : ST}
theorem c_cond {y : Nat × Nat} (hn : 30000 ≤ n) (hT : CTk c L S) (hl : l = 35 ∨ l = 60) (hy : CY y S) (hw : yW (tkK c L) y) (hN : N0 + 2 ≤ y.2) (e7 : S.1 l 7 = nI N0) :
    Ok (E_X2_takeCondition n S l) (fun S' => ∃ q, Rch (tkK c L) (tkV c L) (cInit y) q ∧ cdn (tkK c L) q ∧ CQI (tkK c L) y.2 q ∧ Df (XGr l N0) S S' ∧ CY q.y S' ∧ (q.y.1 = 0 → S'.1 l 7 = nI (N0 + (cfE q).length) ∧ StpC l N0 (cfE q) S' ∧ N0 + (cfE q).length ≤ 400) ∧ ∃ z, S'.1 l 7 = nI z ∧ z ≤ 400) := by
  unfold E_X2_takeCondition
  apply Ok.letsU
  apply Ok.letsU
  apply Ok.letsU
  apply Ok.letsU
  apply Ok.letsU
  generalize eS1 : upI (upI (upI (upI (upI S 15 3 (0 : Int32)) 15 6 (0 : Int32)) 15 7 (0 : Int32)) 15 8 (0 : Int32)) 15 9 (0 : Int32) = S1
  have x15 : ∀ j, 3 ≤ j → XGr l N0 15 j = true := fun j hj => by
    have : ¬ j < 3 := by omega
    simp [XGr, this]
  have o1 : ∀ a j, (a ≠ 15 ∨ (j ≠ 3 ∧ j ≠ 6 ∧ j ≠ 7 ∧ j ≠ 8 ∧ j ≠ 9)) → S1.1 a j = S.1 a j := fun a j h => by rw [← eS1, upI_at, if_neg (by omega), upI_at, if_neg (by omega), upI_at, if_neg (by omega), upI_at, if_neg (by omega), upI_at, if_neg (by omega)]
  have d1 : Df (XGr l N0) S S1 := by rw [← eS1]; exact (((((Df.refl _ _).up (x15 3 (by decide))).up (x15 6 (by decide))).up (x15 7 (by decide))).up (x15 8 (by decide))).up (x15 9 (by decide))
  have f3 : S1.1 15 3 = 0 := by rw [← eS1, upI_at, if_neg (by omega), upI_at, if_neg (by omega), upI_at, if_neg (by omega), upI_at, if_neg (by omega), upI_at, if_pos ⟨rfl, rfl⟩]
  have f6 : S1.1 15 6 = 0 := by rw [← eS1, upI_at, if_neg (by omega), upI_at, if_neg (by omega), upI_at, if_neg (by omega), upI_at, if_pos ⟨rfl, rfl⟩]
  have f7 : S1.1 15 7 = 0 := by rw [← eS1, upI_at, if_neg (by omega), upI_at, if_neg (by omega), upI_at, if_pos ⟨rfl, rfl⟩]
  have f8 : S1.1 15 8 = 0 := by rw [← eS1, upI_at, if_neg (by omega), upI_at, if_pos ⟨rfl, rfl⟩]
  have f9 : S1.1 15 9 = 0 := by rw [← eS1, upI_at, if_pos ⟨rfl, rfl⟩]
  have hms : ∀ y : Nat × Nat, cms y ≤ 401 := fun y => by unfold cms; split <;> omega
  refine bindW (fun d (s : Int32 × ST) => ∃ i q, s.1 = nI i ∧ d = cms q.y ∧ i + cms q.y ≤ 401 ∧ Rch (tkK c L) (tkV c L) (cInit y) q ∧ CQI (tkK c L) y.2 q ∧ CQC l N0 q s.2 ∧ Df (XGr l N0) S s.2) (cms y) (fun S' => ∃ q, Rch (tkK c L) (tkV c L) (cInit y) q ∧ cdn (tkK c L) q ∧ CQI (tkK c L) y.2 q ∧ CQC l N0 q S' ∧ Df (XGr l N0) S S') (by have := hms y; omega) ?_ ?_ ?_
  · refine ⟨0, cInit y, rfl, rfl, by have := hms y; show 0 + cms y ≤ 401; omega, Rch.rf _, CQI.init hw, ⟨⟨?_, ?_⟩, ?_, trivial, ?_, trivial, fun _ => ⟨f6, f7, f8, f9⟩⟩, d1⟩
    · show S1.1 15 4 = _; rw [o1 _ _ (by omega)]; exact hy.1
    · show S1.1 15 5 = _; rw [o1 _ _ (by omega)]; exact hy.2
    · exact f3
    · show S1.1 l 7 = _; rw [o1 _ _ (by omega)]; exact e7
  · rintro d ⟨u, S2⟩ ⟨i, q, rfl, rfl, hi, hr, hQ, hC, d2⟩
    dsimp only at hC d2 ⊢
    have hT2 := hT.gr hl d2
    have hY := hQ.1
    by_cases h0 : q.y.1 = 0
    case neg =>
      have dn : cdn (tkK c L) q := Or.inl h0
      refine Ok.ifC (fun _ => Ok.inr ⟨q, hr, dn, hQ, hC, d2⟩) (fun _ => ?_)
      refine Ok.ifF (fun z => h0 ?_) (Ok.inr ⟨q, hr, dn, hQ, hC, d2⟩)
      rw [hC.1.2] at z
      exact (nI_eq (b := 0) (by omega) (by decide)).mp z
    have hc1 : 1 ≤ cms q.y := by unfold cms; rw [if_pos h0]; omega
    refine Ok.ifF (nI_nlt (a := 400) (by omega) (by omega)) ?_
    refine Ok.ifT (by rw [hC.1.2, h0]; rfl) ?_
    rw [hC.1.1]
    apply Ok.step (c_kind hT2 hY.2.1)
    apply Ok.jnU
    obtain ⟨f6, f7, f8, f9⟩ := hC.2.2.2.2.2 h0
    have hsl : opn q.s ≤ 6 := hQ.2.2.1
    have hkl := tkK_le (c := c) (L := L) (j := q.y.2)
    by_cases dn : cdn (tkK c L) q
    · rcases dn with z | ⟨z1, z2, z3, z4⟩
      · exact absurd h0 z
      · refine Ok.ifT (by rw [z1]; rfl) (Ok.ifF (by rw [f7, z2]; decide) (Ok.ifT (by rw [f6, z3]; rfl) (Ok.ifF (by rw [f9, lf_isSome]; exact z4) ?_)))
        exact Ok.inr ⟨q, hr, Or.inr ⟨z1, z2, z3, z4⟩, hQ, hC, d2⟩
    obtain ⟨hQ', hm⟩ := hQ.st (V := tkV c L) dn
    have body : Ok (if (S2.1 15 7) = 0 then (E_X2_takeOperand n S2 l (nI (tkK c L q.y.2))).bind fun S14 => some (.inl ((nI i + (1 : Int32)), S14)) else (E_X2_takeBehindOperand n S2 l (nI (tkK c L q.y.2))).bind fun S14 => some (.inl ((nI i + (1 : Int32)), S14)) : Option ((Int32 × ST) ⊕ ST)) (Sum.elim (fun s' => ∃ d', d' < cms q.y ∧ ∃ i q, s'.1 = nI i ∧ d' = cms q.y ∧ i + cms q.y ≤ 401 ∧ Rch (tkK c L) (tkV c L) (cInit y) q ∧ CQI (tkK c L) y.2 q ∧ CQC l N0 q s'.2 ∧ Df (XGr l N0) S s'.2) (fun S' => ∃ q, Rch (tkK c L) (tkV c L) (cInit y) q ∧ cdn (tkK c L) q ∧ CQI (tkK c L) y.2 q ∧ CQC l N0 q S' ∧ Df (XGr l N0) S S')) := by
      cases hb : q.b
      · refine Ok.ifT (by rw [f7, hb]; rfl) ?_
        obtain ⟨S3, e1, d3, hC3⟩ := c_operand (n := n) hn hT2 hl hQ hN h0 hb hC
        apply Ok.step e1
        exact Ok.inl ⟨_, hm, i + 1, _, nI_1 _, rfl, by omega, hr.tr (Rch.one dn), hQ', hC3, d2.trans d3⟩
      · refine Ok.ifF (by rw [f7, hb]; decide) ?_
        obtain ⟨S3, e1, d3, hC3⟩ := c_behind (n := n) hn hT2 hl hQ hN h0 hb hC
        apply Ok.step e1
        exact Ok.inl ⟨_, hm, i + 1, _, nI_1 _, rfl, by omega, hr.tr (Rch.one dn), hQ', hC3, d2.trans d3⟩
    by_cases z1 : tkK c L q.y.2 = 22
    · refine Ok.ifT (by rw [z1]; rfl) ?_
      refine Ok.ifC (fun _ => body) (fun z2 => ?_)
      rw [f7, bI_z, Bool.not_eq_false] at z2
      refine Ok.ifC (fun z3 => ?_) (fun _ => body)
      rw [f6] at z3
      have z3' := (nI_eq (b := 0) (by omega) (by decide)).mp z3
      refine Ok.ifT ?_ body
      rw [f9, lf_isSome]
      exact Classical.byContradiction (fun z4 => dn (Or.inr ⟨z1, z2, z3', z4⟩))
    · exact Ok.ifF (fun z => z1 ((nI_eq (b := 22) (by omega) (by decide)).mp z)) body
  · rintro S2 ⟨q, hr, dn, hQ, hC, d2⟩
    have hlen := fl_len q
    have hAB := rel_len 1 (flS q)
    have htot : totQ q + y.2 ≤ q.y.2 + q.y.1 := hQ.2.2.2.1
    have hY := hQ.1
    obtain ⟨S3, e1, d3, a1, a2, a3, a4, a5⟩ := c_release (n := n) (t := 1) hn (by decide) (by decide) hl (by omega) hC.2.1 hC.2.2.1 (fl_mem hQ.2.1 hQ.2.2.2.2.2.2.2.1) hC.2.2.2.1 (by omega)
    apply Ok.step (show E_X2_release n S2 l (1 : Int32) = some S3 from e1)
    refine Ok.ret ⟨q, hr, dn, hQ, d2.trans (XGr.mono (by omega) d3), ⟨by rw [a5 _ (by omega)]; exact hC.1.1, by rw [a5 _ (by omega)]; exact hC.1.2⟩, fun h0 => ?_, N0 + (stS q).length + (relO 1 (flS q)).length, a3, by omega⟩
    rcases dn with z | ⟨z1, z2, z3, z4⟩
    · exact absurd h0 z
    cases hlf : q.lf with
    | none => exact absurd hlf z4
    | some x =>
      obtain ⟨how, li⟩ := x
      have ef := cfE_st hQ.2.1 z3 hlf
      have ra := (fl_all hQ.2.1 z3 hQ.2.2.2.2.2.2.2.1 hlf).1
      rw [ra] at a3 a4 hAB
      rw [ef]
      refine ⟨by rw [a3, List.length_append, opsC_len, Nat.add_assoc], ?_, by rw [List.length_append, opsC_len]; omega⟩
      refine StpC.app (hC.2.2.2.2.1.fr (fun j h1 h2 => ?_)) a4
      have hx1 : XGr l (N0 + (stS q).length) (l + 1) j = false := by
        simp only [XGr, Bool.or_eq_false_iff, Bool.and_eq_false_iff, beq_eq_false_iff_ne, decide_eq_false_iff_not]
        omega
      have hx2 : XGr l (N0 + (stS q).length) (l + 2) j = false := by
        simp only [XGr, Bool.or_eq_false_iff, Bool.and_eq_false_iff, beq_eq_false_iff_ne, decide_eq_false_iff_not]
        omega
      exact ⟨d3.2 _ _ hx1, d3.2 _ _ hx2⟩
end CFE
