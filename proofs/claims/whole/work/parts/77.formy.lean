/-! ===== the reference goes through an expression: all of it ===== -/
section RFY
variable {n L b0 cb uc : Nat} {c : Nat → Nat} {S : ST}
/-- a whole expression is there, or a fault -/
def XpR (c : Nat → Nat) (L b0 cb uc : Nat) (q0 q : CQ) (S0 S : ST) : Prop := REs c L b0 cb uc q0 q S0 S ∧ (q.y.1 = 0 → q.b = true ∧ opn q.s = 0 ∧ ¬ (24 ≤ tkK c L q.y.2 ∧ tkK c L q.y.2 ≤ 27) ∧ S.1 95 12 = 0 ∧ S.1 95 53 = nI (zQ cb q0 + (q.o ++ opsC (relO 1 q.s)).length) ∧ CdR (zQ cb q0) (q.o ++ opsC (relO 1 q.s)) S)
theorem r_expr {q0 : CQ} (hn : 30000 ≤ n) (hT : RTk c L S) (hQ0 : CQI (tkK c L) b0 q0) (hcb : cb + 420 ≤ uc + b0) (huc : uc ≤ 840) (hy0 : RY c L q0.y S) (hd0 : q0.y.1 = 0 → q0.b = false ∧ q0.o = [] ∧ q0.s = [] ∧ S.1 95 12 = 0 ∧ S.1 95 53 = nI (zQ cb q0) ∧ (tkK c L q0.y.2 ≠ 15 ∨ q0.g = true)) :
    Ok (E_X12_expression n S) (fun S' => ∃ q, XpR c L b0 cb uc q0 q S S') := by
  unfold E_X12_expression
  apply Ok.letsU
  have dA : Df (XEx uc (zQ cb q0)) S (upI S 95 57 (0 : Int32)) := (Df.refl _ _).up rfl
  have hms : ∀ y : Nat × Nat, cms y ≤ 401 := fun y => by unfold cms; split <;> omega
  have hbase : q0.y.1 = 0 → (upI S 95 57 (0 : Int32)).1 95 12 = 0 := fun z => by rw [upI_at, if_neg (by omega)]; exact (hd0 z).2.2.2.1
  refine bindW (fun d (s : Int32 × ST) => ∃ q, s.1 = 1 ∧ d = cms q.y ∧ REs c L b0 cb uc q0 q S s.2 ∧ (q.y.1 = 0 → q0.y.1 = 0 ∧ q.b = false ∧ RE cb q s.2 ∧ (tkK c L q.y.2 ≠ 15 ∨ q.g = true))) (cms q0.y) (fun r => ∃ q, XpR c L b0 cb uc q0 q S (Sum.elim id id r)) (by have := hms q0.y; omega) ?_ ?_ ?_
  · refine ⟨q0, rfl, rfl, ⟨Rch.rf _, hQ0, SameL.rf _, hy0.fr (fun j hj => by rw [upI_at, if_neg (by omega)]), dA⟩, fun h0 => ?_⟩
    obtain ⟨h1, h2, h3, h4, h5, h6⟩ := hd0 h0
    refine ⟨h0, h1, ⟨?_, ?_, ?_, ?_, ?_⟩, h6⟩
    · rw [upI_at, if_neg (by omega), h4, h3]; rfl
    · rw [upI_at, if_pos ⟨rfl, rfl⟩, h3]; rfl
    · rw [h3]; trivial
    · rw [upI_at, if_neg (by omega), h5, h2]; rfl
    · rw [h2]; trivial
  · rintro d ⟨u, S1⟩ ⟨q1, rfl, rfl, ⟨hr1, hQ1, hs1, hy1, d1⟩, hd1⟩
    dsimp only at hy1 d1 hd1 ⊢
    refine Ok.ifF (by decide) ?_
    by_cases h01 : q1.y.1 = 0
    case neg =>
      refine Ok.ifF (fun z => h01 ?_) (Ok.inr ⟨q1, ⟨hr1, hQ1, hs1, hy1, d1⟩, fun z => absurd z h01⟩)
      rw [hy1.1] at z
      have := hQ1.1.1
      exact (nI_eq (b := 0) (by omega) (by decide)).mp z
    refine Ok.ifT (by rw [hy1.1, h01]; rfl) ?_
    obtain ⟨h00, hb1, hE1, h15⟩ := hd1 h01
    have hbase' := hbase h00
    rw [hbase']
    -- the opening brackets
    refine bindW (fun d (s5 : ST) => ∃ q, d = cms q.y ∧ cms q.y ≤ cms q1.y ∧ REs c L b0 cb uc q0 q S s5 ∧ (q.y.1 = 0 → q.b = false ∧ RE cb q s5 ∧ (tkK c L q.y.2 ≠ 15 ∨ q.g = true))) (cms q1.y) (fun s5 => ∃ q, cms q.y ≤ cms q1.y ∧ REs c L b0 cb uc q0 q S s5 ∧ (q.y.1 = 0 → q.b = false ∧ RE cb q s5 ∧ (tkK c L q.y.2 ≠ 15 ∨ q.g = true) ∧ tkK c L q.y.2 ≠ 32)) (by have := hms q1.y; omega) ⟨q1, rfl, Nat.le_refl _, ⟨hr1, hQ1, hs1, hy1, d1⟩, fun _ => ⟨hb1, hE1, h15⟩⟩ ?_ ?_
    · rintro d2 S2 ⟨q2, rfl, hc2, ⟨hr2, hQ2, hs2, hy2, d2⟩, hd2⟩
      have hw2 := hQ2.1
      have hT2 := hT.ex d2
      have e1 : E_X12_is n S2 (6 : Int32) = _ := r_is (n := n) (k := 32) hT2 hy2 hw2 (by decide)
      apply Ok.step e1
      by_cases c1 : q2.y.1 = 0 ∧ tkK c L q2.y.2 = 32
      case neg =>
        refine Ok.ifT (by rw [decide_eq_false c1]; rfl) (Ok.inr ⟨q2, hc2, ⟨hr2, hQ2, hs2, hy2, d2⟩, fun z => ?_⟩)
        obtain ⟨g1, g2, g3⟩ := hd2 z
        exact ⟨g1, g2, g3, fun z2 => c1 ⟨z, z2⟩⟩
      refine Ok.ifF (by rw [decide_eq_true c1]; decide) ?_
      apply Ok.jnU
      obtain ⟨hb2, hE2, h152⟩ := hd2 c1.1
      obtain ⟨hz2, hl2⟩ := RE_b hQ2 hcb
      have nd := ncdn_b (K := tkK c L) c1.1 hb2
      obtain ⟨hQ3, hm3⟩ := hQ2.st (V := tkV c L) nd
      have ez : zQ cb q2 = zQ cb q0 := hs2.z
      by_cases c6 : opn q2.s < 6
      · have ecs := cst_open (K := tkK c L) (V := tkV c L) hb2 c1.2 c6
        refine Ok.ifF (fun z => ?_) ?_
        · rw [hE2.1] at z
          have := (nI_eq (b := 6) (by omega) (by decide)).mp z
          omega
        apply Ok.letsU
        have d3 : Df (XEx uc (zQ cb q0)) S (upI S2 95 12 ((S2.1 95 12) + (1 : Int32))) := d2.up rfl
        have hy3 : RY c L q2.y (upI S2 95 12 ((S2.1 95 12) + (1 : Int32))) := hy2.fr (fun j hj => by rw [upI_at, if_neg (by omega)])
        obtain ⟨S4, f4, d4, y4⟩ := r_goesOn (n := n) (hT.ex d3) hy3 hw2
        apply Ok.step f4
        have o4 : ∀ a j, (a ≠ 95 ∨ (j ≠ 11 ∧ j ≠ 13 ∧ j ≠ 14 ∧ j ≠ 12)) → S4.1 a j = S2.1 a j := fun a j hj => by
          rw [d4.2 _ _ (by simp only [XFl, Bool.and_eq_false_iff, Bool.or_eq_false_iff, beq_eq_false_iff_ne]; omega), upI_at, if_neg (by omega)]
        rw [← tk_gy (K := tkK c L) (k := tkK c L q2.y.2) (fun _ => rfl)] at y4
        rw [o4 95 57 (by omega), hE2.2.1]
        apply Ok.step (wr_nI (by omega) (by decide))
        apply Ok.letsU
        refine Ok.inl ⟨_, hm3, cst (tkK c L) (tkV c L) q2, rfl, by omega, ⟨hr2.tr (Rch.one nd), hQ3, hs2.tr ?_, ?_, ((d3.trans (XFl_Ex d4)).up rfl).up rfl⟩, fun z => ?_⟩
        · rw [ecs]; exact ⟨rfl, rfl, rfl, rfl⟩
        · rw [ecs]; exact y4.fr (fun j hj => by rw [upI_at, if_neg (by omega), upI_at, if_neg (by omega)])
        · rw [ecs]
          have e57 : (upI S4 136 q2.s.length (6 : Int32)).1 95 57 = nI q2.s.length := by rw [upI_at, if_neg (by omega), o4 95 57 (by omega)]; exact hE2.2.1
          refine ⟨hb2, ⟨?_, ?_, ⟨?_, ?_⟩, ?_, ?_⟩, Or.inr rfl⟩
          · show _ = nI (opn (32 :: q2.s))
            rw [upI_at, if_neg (by omega), upI_at, if_neg (by omega), d4.2 _ _ rfl, upI_at, if_pos ⟨rfl, rfl⟩, hE2.1, nI_1, opn, if_pos rfl]
          · show _ = nI (32 :: q2.s).length
            rw [upI_at, if_pos ⟨rfl, rfl⟩, e57, nI_1, List.length_cons]
          · show _ = nI (kR 32)
            rw [upI_at, if_neg (by omega), upI_at, if_pos ⟨rfl, rfl⟩]; rfl
          · exact hE2.2.2.1.fr (fun j hj => by rw [upI_at, if_neg (by omega), upI_at, if_neg (by omega)]; exact o4 _ _ (by omega))
          · show _ = nI (zQ cb q2 + q2.o.length)
            rw [upI_at, if_neg (by omega), upI_at, if_neg (by omega), o4 _ _ (by omega)]; exact hE2.2.2.2.1
          · exact hE2.2.2.2.2.fr (fun j _ _ => ⟨by rw [upI_at, if_neg (by omega), upI_at, if_neg (by omega)]; exact o4 _ _ (by omega), by rw [upI_at, if_neg (by omega), upI_at, if_neg (by omega)]; exact o4 _ _ (by omega)⟩)
      · have ecs := cst_open6 (K := tkK c L) (V := tkV c L) hb2 c1.2 c6
        have h6 : opn q2.s = 6 := by have := hQ2.2.2.1; omega
        refine Ok.ifT (by rw [hE2.1, h6]; rfl) ?_
        obtain ⟨S3, f3, d3, y3, _⟩ := r_fail (n := n) (f := 2) hT2 hy2 hw2
        rw [if_pos c1.1] at y3
        apply Ok.step (show E_X12_fail n S2 (2 : Int32) = some S3 from f3)
        apply Ok.letsU
        have d4 : Df (XEx uc (zQ cb q0)) S (upI S3 95 12 ((S3.1 95 12) + (1 : Int32))) := (d2.trans (XFl_Ex d3)).up rfl
        have hy4 : RY c L (2, q2.y.2) (upI S3 95 12 ((S3.1 95 12) + (1 : Int32))) := y3.fr (fun j hj => by rw [upI_at, if_neg (by omega)])
        obtain ⟨S5, f5, d5, y5⟩ := r_goesOn (n := n) (hT.ex d4) hy4 ⟨Nat.le_refl 2, hw2.2⟩
        apply Ok.step f5
        have e57 : S5.1 95 57 = nI q2.s.length := by rw [d5.2 _ _ rfl, upI_at, if_neg (by omega), d3.2 _ _ rfl]; exact hE2.2.1
        rw [e57]
        apply Ok.step (wr_nI (by omega) (by decide))
        apply Ok.letsU
        refine Ok.inl ⟨_, hm3, cst (tkK c L) (tkV c L) q2, rfl, by omega, ⟨hr2.tr (Rch.one nd), hQ3, hs2.tr ?_, ?_, ((d4.trans (XFl_Ex d5)).up rfl).up rfl⟩, fun z => ?_⟩
        · rw [ecs]; exact ⟨rfl, rfl, rfl, rfl⟩
        · rw [ecs]
          have eg : gy (2, q2.y.2) = (2, q2.y.2) := rfl
          rw [eg] at y5
          exact y5.fr (fun j hj => by rw [upI_at, if_neg (by omega), upI_at, if_neg (by omega)])
        · rw [ecs] at z; exact absurd z (by intro z; cases z)
    · rintro S2 ⟨q2, hc2, hR2, hd2⟩
      have hT2 := hT.ex hR2.2.2.2.2
      obtain ⟨S3, f3, q3, hR3, hm3, hf3, hd3⟩ := r_unit (n := n) hT2 hcb huc hR2 hd2
      apply Ok.step f3
      have hw3 := hR3.2.1.1
      have hy3 := hR3.2.2.2.1
      by_cases h03 : q3.y.1 = 0
      case neg =>
        refine Ok.ifF (by rw [hy3.1]; have := hw3.1; exact nI_nle (by omega) (by omega)) ?_
        exact Ok.inr ⟨q3, hR3, fun z => absurd z h03⟩
      refine Ok.ifT (by rw [hy3.1, h03]; decide) ?_
      obtain ⟨hb3, hE3⟩ := hd3 h03
      have hlt3 : cms q3.y < cms q1.y := by
        have h02 : q2.y.1 = 0 := by
          rcases Nat.eq_zero_or_pos q2.y.1 with z | z
          · exact z
          · exact absurd h03 (hf3 (by omega))
        have := hm3 h02
        omega
      -- the closing brackets
      refine bindW (fun d (s5 : ST) => ∃ q, d = cms q.y ∧ cms q.y < cms q1.y ∧ REs c L b0 cb uc q0 q S s5 ∧ q.b = true ∧ RE cb q s5) (cms q3.y) (fun s5 => ∃ q, cms q.y < cms q1.y ∧ REs c L b0 cb uc q0 q S s5 ∧ q.b = true ∧ RE cb q s5 ∧ (q.y.1 = 0 → 0 < opn q.s → tkK c L q.y.2 ≠ 33)) (by have := hms q3.y; omega) ⟨q3, rfl, hlt3, hR3, hb3, hE3⟩ ?_ ?_
      · rintro d4 S4 ⟨q4, rfl, hc4, ⟨hr4, hQ4, hs4, hy4, d4⟩, hb4, hE4⟩
        have hw4 := hQ4.1
        have hT4 := hT.ex d4
        have e1 : E_X12_is n S4 (7 : Int32) = _ := r_is (n := n) (k := 33) hT4 hy4 hw4 (by decide)
        apply Ok.step e1
        obtain ⟨hz4, hl4⟩ := RE_b hQ4 hcb
        have hop4 := hQ4.2.2.1
        by_cases c1 : q4.y.1 = 0 ∧ tkK c L q4.y.2 = 33
        case neg => exact Ok.ifT (by rw [decide_eq_false c1]; rfl) (Ok.inr ⟨q4, hc4, ⟨hr4, hQ4, hs4, hy4, d4⟩, hb4, hE4, fun z _ z2 => c1 ⟨z, z2⟩⟩)
        refine Ok.ifF (by rw [decide_eq_true c1]; decide) ?_
        by_cases c2 : 0 < opn q4.s
        case neg => exact Ok.ifT (by rw [hE4.1, show opn q4.s = 0 by omega]; decide) (Ok.inr ⟨q4, hc4, ⟨hr4, hQ4, hs4, hy4, d4⟩, hb4, hE4, fun _ z => absurd z c2⟩)
        refine Ok.ifF (by rw [hE4.1]; exact nI_nle c2 (by omega)) ?_
        have nd := ncdn_o (K := tkK c L) c1.1 c2
        obtain ⟨hQ5, hm5⟩ := hQ4.st (V := tkV c L) nd
        have ecs := cst_close (K := tkK c L) (V := tkV c L) hb4 c1.2 c2
        have ez : zQ cb q4 = zQ cb q0 := hs4.z
        obtain ⟨r, r1, r2, r3⟩ := rel_open hQ4.2.1 c2
        have hAB := rel_len 1 q4.s
        obtain ⟨S5, f5, d5, a1, a2, a3, a4, a5⟩ := r_comesOut (n := n) (t := 1) (b := false) hn (Or.inr ⟨rfl, by decide, by decide⟩) (by omega) hQ4.2.1 hE4.2.1 hE4.2.2.1 hE4.2.2.2.1 huc (by omega)
        apply Ok.step (show E_X12_comesOut n S4 (0 : Int32) = some S5 from f5)
        rw [r1, List.length_cons] at a1
        rw [r1] at a2
        apply Ok.letsU
        apply Ok.letsU
        have es : S5.1 95 57 - 1 = nI r.length := by
          rw [a1]
          have := nI_subC 1 r.length
          rw [Nat.add_comm] at this
          exact this
        rw [es]
        generalize eS6 : upI S5 95 57 (nI r.length) = S6
        have o6 : ∀ a j, (a ≠ 95 ∨ j ≠ 57) → S6.1 a j = S5.1 a j := fun a j h => by rw [← eS6, upI_at, if_neg (by omega)]
        have e12 : S6.1 95 12 - 1 = nI (opn r) := by
          rw [o6 _ _ (by omega), a5 _ _ (by omega) (by omega) (by omega), hE4.1, r3]
          have := nI_subC 1 (opn r)
          rw [Nat.add_comm] at this
          exact this
        rw [e12]
        generalize eS7 : upI S6 95 12 (nI (opn r)) = S7
        have o7 : ∀ a j, (a ≠ 95 ∨ (j ≠ 57 ∧ j ≠ 12)) → S7.1 a j = S5.1 a j := fun a j h => by rw [← eS7, upI_at, if_neg (by omega), o6 _ _ (by omega)]
        have d7 : Df (XEx uc (zQ cb q0)) S S7 := by rw [← eS7, ← eS6]; exact ((d4.trans (XEx.mono (by omega) d5)).up rfl).up rfl
        have hy7 : RY c L q4.y S7 := hy4.fr (fun j hj => by rw [o7 _ _ (by omega), a5 _ _ (by omega) (by omega) (by omega)])
        obtain ⟨S8, f8, d8, y8⟩ := r_goesOn (n := n) (hT.ex d7) hy7 hw4
        apply Ok.step f8
        rw [← tk_gy (K := tkK c L) (k := tkK c L q4.y.2) (fun _ => rfl)] at y8
        have o8 : ∀ a j, (a ≠ 95 ∨ (j ≠ 11 ∧ j ≠ 13 ∧ j ≠ 14)) → S8.1 a j = S7.1 a j := fun a j hj => d8.2 _ _ (by simp only [XFl, Bool.and_eq_false_iff, Bool.or_eq_false_iff, beq_eq_false_iff_ne]; omega)
        refine Ok.inl ⟨_, hm5, cst (tkK c L) (tkV c L) q4, rfl, by omega, ⟨hr4.tr (Rch.one nd), hQ5, hs4.tr ?_, ?_, d7.trans (XFl_Ex d8)⟩, ?_, ?_⟩
        · rw [ecs]; exact ⟨rfl, rfl, rfl, rfl⟩
        · rw [ecs]; exact y8
        · rw [ecs]; exact hb4
        · rw [ecs]
          refine ⟨?_, ?_, ?_, ?_, ?_⟩
          · show S8.1 95 12 = nI (opn (relR 1 q4.s).tail)
            rw [r1, o8 _ _ (by omega), ← eS7, upI_at, if_pos ⟨rfl, rfl⟩]; rfl
          · show S8.1 95 57 = nI (relR 1 q4.s).tail.length
            rw [r1, o8 _ _ (by omega), ← eS7, upI_at, if_neg (by omega), ← eS6, upI_at, if_pos ⟨rfl, rfl⟩]; rfl
          · show WtR (relR 1 q4.s).tail S8
            rw [r1]
            exact a2.2.fr (fun j _ => by rw [o8 _ _ (by omega), o7 _ _ (by omega)])
          · show S8.1 95 53 = nI (zQ cb q4 + (q4.o ++ opsC (relO 1 q4.s)).length)
            rw [o8 _ _ (by omega), o7 _ _ (by omega), a3, List.length_append, opsC_len, Nat.add_assoc]
          · show CdR (zQ cb q4) (q4.o ++ opsC (relO 1 q4.s)) S8
            refine CdR.app (hE4.2.2.2.2.fr (fun j h1 h2 => ?_)) (a4.fr (fun j _ _ => ⟨by rw [o8 _ _ (by omega), o7 _ _ (by omega)], by rw [o8 _ _ (by omega), o7 _ _ (by omega)]⟩))
            have hx1 : XEx uc (zQ cb q4 + q4.o.length) 134 j = false := by
              simp only [XEx, Bool.or_eq_false_iff, Bool.and_eq_false_iff, beq_eq_false_iff_ne, decide_eq_false_iff_not]
              omega
            have hx2 : XEx uc (zQ cb q4 + q4.o.length) 135 j = false := by
              simp only [XEx, Bool.or_eq_false_iff, Bool.and_eq_false_iff, beq_eq_false_iff_ne, decide_eq_false_iff_not]
              omega
            rw [o8 _ _ (by omega), o8 _ _ (by omega), o7 _ _ (by omega), o7 _ _ (by omega)]
            exact ⟨d5.2 _ _ hx1, d5.2 _ _ hx2⟩
      · rintro S4 ⟨q4, hc4, ⟨hr4, hQ4, hs4, hy4, d4⟩, hb4, hE4, h33⟩
        have hw4 := hQ4.1
        have hT4 := hT.ex d4
        obtain ⟨hz4, hl4⟩ := RE_b hQ4 hcb
        have hop4 := hQ4.2.2.1
        have ez : zQ cb q4 = zQ cb q0 := hs4.z
        have hAB := rel_len 1 q4.s
        refine r_more hT4 hy4 hw4 ?_
        by_cases c1 : q4.y.1 = 0 ∧ (24 ≤ tkK c L q4.y.2 ∧ tkK c L q4.y.2 ≤ 27)
        case neg =>
          refine Ok.ifT (by rw [decide_eq_false c1]; rfl) ?_
          apply Ok.jnU
          -- what comes out at the end
          have out : ∀ (q5 : CQ) (S5 : ST), q5.s = q4.s → q5.o = q4.o → REs c L b0 cb uc q0 q5 S S5 → (∀ a j, (a ≠ 95 ∨ (j ≠ 11 ∧ j ≠ 13 ∧ j ≠ 14)) → S5.1 a j = S4.1 a j) → (q5.y.1 = 0 → q5 = q4 ∧ opn q4.s = 0) → Ok ((E_X12_comesOut n S5 (0 : Int32)).bind fun S36 => (some (.inr (.inr S36)) : Option ((Int32 × ST) ⊕ (ST ⊕ ST)))) (Sum.elim (fun s' => ∃ d', d' < cms q1.y ∧ ∃ q, s'.1 = 1 ∧ d' = cms q.y ∧ REs c L b0 cb uc q0 q S s'.2 ∧ (q.y.1 = 0 → q0.y.1 = 0 ∧ q.b = false ∧ RE cb q s'.2 ∧ (tkK c L q.y.2 ≠ 15 ∨ q.g = true))) (fun r => ∃ q, XpR c L b0 cb uc q0 q S (Sum.elim id id r))) := fun q5 S5 es5 eo5 hR5 o5 hq5 => by
            obtain ⟨S6, f6, d6, a1, a2, a3, a4, a5⟩ := r_comesOut (n := n) (S := S5) (t := 1) (b := false) hn (Or.inr ⟨rfl, by decide, by decide⟩) (by omega) hQ4.2.1 ((o5 _ _ (by omega)).trans hE4.2.1) (hE4.2.2.1.fr (fun j _ => o5 _ _ (by omega))) ((o5 _ _ (by omega)).trans hE4.2.2.2.1) huc (by omega)
            apply Ok.step (show E_X12_comesOut n S5 (0 : Int32) = some S6 from f6)
            refine Ok.inr ⟨q5, ⟨hR5.1, hR5.2.1, hR5.2.2.1, hR5.2.2.2.1.fr (fun j hj => a5 _ _ (by omega) (by omega) (by omega)), hR5.2.2.2.2.trans (XEx.mono (by omega) d6)⟩, fun z => ?_⟩
            obtain ⟨e5, ho⟩ := hq5 z
            subst e5
            refine ⟨hb4, ho, fun z2 => c1 ⟨z, z2⟩, ?_, ?_, ?_⟩
            · show S6.1 95 12 = 0
              rw [a5 _ _ (by omega) (by omega) (by omega), o5 _ _ (by omega), hE4.1, ho]; rfl
            · show S6.1 95 53 = _
              rw [a3, ← ez, List.length_append, opsC_len, Nat.add_assoc]
            · show CdR _ _ S6
              rw [← ez]
              refine CdR.app (hE4.2.2.2.2.fr (fun j h1 h2 => ?_)) a4
              have hx1 : XEx uc (zQ cb q5 + q5.o.length) 134 j = false := by
                simp only [XEx, Bool.or_eq_false_iff, Bool.and_eq_false_iff, beq_eq_false_iff_ne, decide_eq_false_iff_not]
                omega
              have hx2 : XEx uc (zQ cb q5 + q5.o.length) 135 j = false := by
                simp only [XEx, Bool.or_eq_false_iff, Bool.and_eq_false_iff, beq_eq_false_iff_ne, decide_eq_false_iff_not]
                omega
              rw [d6.2 _ _ hx1, d6.2 _ _ hx2]
              exact ⟨o5 _ _ (by omega), o5 _ _ (by omega)⟩
          by_cases c2 : 0 < opn q4.s
          case neg =>
            refine Ok.ifT (by rw [hE4.1, show opn q4.s = 0 by omega]; decide) ?_
            exact out q4 S4 rfl rfl ⟨hr4, hQ4, hs4, hy4, d4⟩ (fun _ _ _ => rfl) (fun _ => ⟨rfl, by omega⟩)
          refine Ok.ifF (by rw [hE4.1]; exact nI_nle c2 (by omega)) ?_
          obtain ⟨S5, f5, d5, y5, _⟩ := r_fail (n := n) (f := 1) hT4 hy4 hw4
          apply Ok.step (show E_X12_fail n S4 (1 : Int32) = some S5 from f5)
          have o5 : ∀ a j, (a ≠ 95 ∨ (j ≠ 11 ∧ j ≠ 13 ∧ j ≠ 14)) → S5.1 a j = S4.1 a j := fun a j hj => d5.2 _ _ (by simp only [XFl, Bool.and_eq_false_iff, Bool.or_eq_false_iff, beq_eq_false_iff_ne]; omega)
          by_cases h04 : q4.y.1 = 0
          · rw [if_pos h04] at y5
            have nd := ncdn_o (K := tkK c L) h04 c2
            have ecs := cst_bad (K := tkK c L) (V := tkV c L) hb4 (fun z => c1 ⟨h04, z⟩) (h33 h04 c2) c2
            obtain ⟨hQ5, hm5⟩ := hQ4.st (V := tkV c L) nd
            refine out (cst (tkK c L) (tkV c L) q4) S5 ?_ ?_ ⟨hr4.tr (Rch.one nd), hQ5, hs4.tr ?_, ?_, d4.trans (XFl_Ex d5)⟩ o5 ?_
            · rw [ecs]
            · rw [ecs]
            · rw [ecs]; exact ⟨rfl, rfl, rfl, rfl⟩
            · rw [ecs]; exact y5
            · rw [ecs]; intro z; exact absurd z Nat.one_ne_zero
          · rw [if_neg h04] at y5
            exact out q4 S5 rfl rfl ⟨hr4, hQ4, hs4, y5, d4.trans (XFl_Ex d5)⟩ o5 (fun z => absurd z h04)
        refine Ok.ifF (by rw [decide_eq_true c1]; decide) ?_
        refine r_strong hT4 hy4 hw4 ?_
        have nd := ncdn_k (K := tkK c L) c1.1 (by omega)
        obtain ⟨hQ5, hm5⟩ := hQ4.st (V := tkV c L) nd
        have ecs := cst_op (K := tkK c L) (V := tkV c L) hb4 c1.2
        have htg : (26 ≤ tkK c L q4.y.2 → tg (tkK c L q4.y.2) = 6) ∧ (tkK c L q4.y.2 ≤ 25 → tg (tkK c L q4.y.2) = 5) := by
          have : ∀ j : Fin 36, (24 ≤ j.val ∧ j.val ≤ 27) → (26 ≤ j.val → tg j.val = 6) ∧ (j.val ≤ 25 → tg j.val = 5) := by decide
          exact this ⟨tkK c L q4.y.2, by omega⟩ c1.2
        have hAB2 := rel_len (tg (tkK c L q4.y.2)) q4.s
        obtain ⟨S5, f5, d5, a1, a2, a3, a4, a5⟩ := r_comesOut (n := n) (S := S4) (t := tg (tkK c L q4.y.2)) (b := decide (q4.y.1 = 0 ∧ (26 ≤ tkK c L q4.y.2 ∧ tkK c L q4.y.2 ≤ 27))) hn (by
          by_cases g : 26 ≤ tkK c L q4.y.2
          · exact Or.inl ⟨decide_eq_true ⟨c1.1, g, c1.2.2⟩, htg.1 g⟩
          · exact Or.inr ⟨decide_eq_false (by omega), by rw [htg.2 (by omega)]; decide, by rw [htg.2 (by omega)]; decide⟩) (by omega) hQ4.2.1 hE4.2.1 hE4.2.2.1 hE4.2.2.2.1 huc (by omega)
        apply Ok.step f5
        have d5' : Df (XEx uc (zQ cb q0)) S S5 := d4.trans (XEx.mono (by omega) d5)
        have hT5 := hT.ex d5'
        have hy5 : RY c L q4.y S5 := hy4.fr (fun j hj => a5 _ _ (by omega) (by omega) (by omega))
        rw [hy5.2.1 c1.1]
        have hw42 := hw4.2.1
        apply Ok.step (rd_nI (by omega) (by decide))
        rw [hT5.k hw4, a1]
        apply Ok.step (wr_nI (by omega) (by decide))
        apply Ok.letsU
        generalize eS6 : upI S5 136 (relR (tg (tkK c L q4.y.2)) q4.s).length (nI (kR (tkK c L q4.y.2))) = S6
        have e57 : S6.1 95 57 = nI (relR (tg (tkK c L q4.y.2)) q4.s).length := by rw [← eS6, upI_at, if_neg (by omega)]; exact a1
        rw [e57, nI_1]
        generalize eS7 : upI S6 95 57 (nI ((relR (tg (tkK c L q4.y.2)) q4.s).length + 1)) = S7
        have o7 : ∀ a j, a ≠ 136 → (a ≠ 95 ∨ j ≠ 57) → S7.1 a j = S5.1 a j := fun a j h h2 => by rw [← eS7, upI_at, if_neg (by omega), ← eS6, upI_at, if_neg (by omega)]
        have d7 : Df (XEx uc (zQ cb q0)) S S7 := by rw [← eS7, ← eS6]; exact (d5'.up rfl).up rfl
        have hy7 : RY c L q4.y S7 := hy5.fr (fun j hj => o7 _ _ (by omega) (by omega))
        obtain ⟨S8, f8, d8, y8⟩ := r_goesOn (n := n) (hT.ex d7) hy7 hw4
        apply Ok.step f8
        rw [← tk_gy (K := tkK c L) (k := tkK c L q4.y.2) (fun _ => rfl)] at y8
        have o8 : ∀ a j, (a ≠ 95 ∨ (j ≠ 11 ∧ j ≠ 13 ∧ j ≠ 14)) → S8.1 a j = S7.1 a j := fun a j hj => d8.2 _ _ (by simp only [XFl, Bool.and_eq_false_iff, Bool.or_eq_false_iff, beq_eq_false_iff_ne]; omega)
        refine Ok.inl ⟨_, (by omega : cms (cst (tkK c L) (tkV c L) q4).y < cms q1.y), cst (tkK c L) (tkV c L) q4, ?_, rfl, ⟨hr4.tr (Rch.one nd), hQ5, hs4.tr ?_, ?_, d7.trans (XFl_Ex d8)⟩, fun z => ⟨h00, ?_, ?_, ?_⟩⟩
        · show bI _ = 1
          rw [decide_eq_true c1]; rfl
        · rw [ecs]; exact ⟨rfl, rfl, rfl, rfl⟩
        · rw [ecs]; exact y8
        · rw [ecs]
        · rw [ecs]
          refine ⟨?_, ?_, ⟨?_, ?_⟩, ?_, ?_⟩
          · show S8.1 95 12 = nI (opn (tkK c L q4.y.2 :: relR (tg (tkK c L q4.y.2)) q4.s))
            rw [opn, if_neg (by omega), rel_opn (by omega), o8 _ _ (by omega), o7 _ _ (by omega) (by omega), a5 _ _ (by omega) (by omega) (by omega)]; exact hE4.1
          · show S8.1 95 57 = nI (tkK c L q4.y.2 :: relR (tg (tkK c L q4.y.2)) q4.s).length
            rw [o8 _ _ (by omega), ← eS7, upI_at, if_pos ⟨rfl, rfl⟩, List.length_cons]
          · show S8.1 136 (relR (tg (tkK c L q4.y.2)) q4.s).length = nI (kR (tkK c L q4.y.2))
            rw [o8 _ _ (by omega), ← eS7, upI_at, if_neg (by omega), ← eS6, upI_at, if_pos ⟨rfl, rfl⟩]
          · exact a2.fr (fun j hj => by rw [o8 _ _ (by omega), ← eS7, upI_at, if_neg (by omega), ← eS6, upI_at, if_neg (by omega)])
          · show S8.1 95 53 = nI (zQ cb q4 + (q4.o ++ opsC (relO (tg (tkK c L q4.y.2)) q4.s)).length)
            rw [o8 _ _ (by omega), o7 _ _ (by omega) (by omega), a3, List.length_append, opsC_len, Nat.add_assoc]
          · show CdR (zQ cb q4) (q4.o ++ opsC (relO (tg (tkK c L q4.y.2)) q4.s)) S8
            refine CdR.app (hE4.2.2.2.2.fr (fun j h1 h2 => ?_)) (a4.fr (fun j _ _ => ⟨by rw [o8 _ _ (by omega), o7 _ _ (by omega) (by omega)], by rw [o8 _ _ (by omega), o7 _ _ (by omega) (by omega)]⟩))
            have hx1 : XEx uc (zQ cb q4 + q4.o.length) 134 j = false := by
              simp only [XEx, Bool.or_eq_false_iff, Bool.and_eq_false_iff, beq_eq_false_iff_ne, decide_eq_false_iff_not]
              omega
            have hx2 : XEx uc (zQ cb q4 + q4.o.length) 135 j = false := by
              simp only [XEx, Bool.or_eq_false_iff, Bool.and_eq_false_iff, beq_eq_false_iff_ne, decide_eq_false_iff_not]
              omega
            rw [o8 _ _ (by omega), o8 _ _ (by omega), o7 _ _ (by omega) (by omega), o7 _ _ (by omega) (by omega)]
            exact ⟨d5.2 _ _ hx1, d5.2 _ _ hx2⟩
        · right
          rw [ecs]
          exact hQ4.2.2.2.2.2.2.2.2.2.2.1 hb4
  · rintro (S1 | S1) h
    · exact Ok.ret h
    · exact Ok.ret h
end RFY
