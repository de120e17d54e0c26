/-! ===== the reference goes through an expression ===== -/
def zQ (cb : Nat) (q : CQ) : Nat := cb + (cdt q.ls + (lfC q.lf).length)
/-- where it is in an expression, by the reference -/
def RE (cb : Nat) (q : CQ) (S : ST) : Prop := S.1 95 12 = nI (opn q.s) ∧ S.1 95 57 = nI q.s.length ∧ WtR q.s S ∧ S.1 95 53 = nI (zQ cb q + q.o.length) ∧ CdR (zQ cb q) q.o S
def SameL (q q' : CQ) : Prop := q'.lf = q.lf ∧ q'.ls = q.ls ∧ q'.ng = q.ng ∧ q'.orr = q.orr
theorem SameL.rf (q : CQ) : SameL q q := ⟨rfl, rfl, rfl, rfl⟩
theorem SameL.tr {a b c : CQ} (h : SameL a b) (h2 : SameL b c) : SameL a c := ⟨h2.1.trans h.1, h2.2.1.trans h.2.1, h2.2.2.1.trans h.2.2.1, h2.2.2.2.trans h.2.2.2⟩
theorem SameL.z {cb : Nat} {q q' : CQ} (h : SameL q q') : zQ cb q' = zQ cb q := by unfold zQ; rw [h.1, h.2.1]
section CSTL
variable {K V : Nat → Nat} {q : CQ}
theorem cst_open (hb : q.b = false) (hk : K q.y.2 = 32) (ho : opn q.s < 6) : cst K V q = mkQ (tk K (K q.y.2) q.y) q.b true q.ng q.lf q.o (32 :: q.s) q.orr q.ls q.E q.pO q.pA := by
  rw [cst.eq_1, if_pos hb, if_neg (by omega), if_pos hk, if_pos ho]
theorem cst_open6 (hb : q.b = false) (hk : K q.y.2 = 32) (ho : ¬ opn q.s < 6) : cst K V q = mkQ (2, q.y.2) q.b q.g q.ng q.lf q.o q.s q.orr q.ls q.E q.pO q.pA := by
  rw [cst.eq_1, if_pos hb, if_neg (by omega), if_pos hk, if_neg ho]
theorem cst_unit (hb : q.b = false) (hk : K q.y.2 = 21 ∨ (16 ≤ K q.y.2 ∧ K q.y.2 ≤ 19)) : cst K V q = mkQ (tk K (K q.y.2) q.y) true true q.ng q.lf (q.o ++ [cod V (K q.y.2) q.y.2]) q.s q.orr q.ls q.E q.pO q.pA := by
  rw [cst.eq_1, if_pos hb, if_neg (by omega), if_neg (by omega), if_pos hk]
theorem cst_no (hb : q.b = false) (h1 : K q.y.2 ≠ 15 ∨ q.g = true) (h2 : K q.y.2 ≠ 32) (hk : ¬ (K q.y.2 = 21 ∨ (16 ≤ K q.y.2 ∧ K q.y.2 ≤ 19))) : cst K V q = mkQ (1, q.y.2) q.b q.g q.ng q.lf q.o q.s q.orr q.ls q.E q.pO q.pA := by
  rw [cst.eq_1, if_pos hb, if_neg, if_neg h2, if_neg hk]
  rintro ⟨z1, z2⟩
  rcases h1 with h | h
  · exact h z1
  · rw [z2] at h; cases h
theorem cst_close (hb : q.b = true) (hk : K q.y.2 = 33) (ho : 0 < opn q.s) : cst K V q = mkQ (tk K (K q.y.2) q.y) q.b q.g q.ng q.lf (q.o ++ opsC (relO 1 q.s)) (relR 1 q.s).tail q.orr q.ls q.E q.pO q.pA := by
  rw [cst.eq_1, if_neg (by rw [hb]; decide), if_pos ⟨hk, ho⟩]
theorem cst_op (hb : q.b = true) (hk : 24 ≤ K q.y.2 ∧ K q.y.2 ≤ 27) : cst K V q = mkQ (tk K (K q.y.2) q.y) false q.g q.ng q.lf (q.o ++ opsC (relO (tg (K q.y.2)) q.s)) (K q.y.2 :: relR (tg (K q.y.2)) q.s) q.orr q.ls q.E q.pO q.pA := by
  rw [cst.eq_1, if_neg (by rw [hb]; decide), if_neg (by omega), if_pos hk]
theorem cst_bad (hb : q.b = true) (hk : ¬ (24 ≤ K q.y.2 ∧ K q.y.2 ≤ 27)) (h3 : K q.y.2 ≠ 33) (ho : 0 < opn q.s) : cst K V q = mkQ (1, q.y.2) q.b q.g q.ng q.lf q.o q.s q.orr q.ls q.E q.pO q.pA := by
  rw [cst.eq_1, if_neg (by rw [hb]; decide), if_neg (by omega), if_neg hk]
  cases hlf : q.lf with
  | none => exact if_neg (by omega)
  | some x => exact (if_neg (by omega)).trans (if_neg (by omega))
theorem ncdn_b (h0 : q.y.1 = 0) (hb : q.b = false) : ¬ cdn K q := by
  rintro (z | ⟨_, z, _⟩)
  · exact z h0
  · rw [hb] at z; cases z
theorem ncdn_o (h0 : q.y.1 = 0) (ho : 0 < opn q.s) : ¬ cdn K q := by
  rintro (z | ⟨_, _, z, _⟩)
  · exact z h0
  · omega
theorem ncdn_k (h0 : q.y.1 = 0) (hk : K q.y.2 ≠ 22) : ¬ cdn K q := by
  rintro (z | ⟨z, _⟩)
  · exact z h0
  · exact hk z
end CSTL
section RFX
variable {n L b0 cb uc : Nat} {c : Nat → Nat} {S : ST}
theorem RY.fr {y : Nat × Nat} {S S' : ST} (h : RY c L y S) (e : ∀ j, j = 11 ∨ j = 13 ∨ j = 14 → S'.1 95 j = S.1 95 j) : RY c L y S' := by
  obtain ⟨h1, h2, h3⟩ := h
  unfold RY
  rw [e 13 (by omega), e 11 (by omega), e 14 (by omega)]
  exact ⟨h1, h2, h3⟩
theorem r_more {β : Type} {J : Int32 → Option β} {R : β → Prop} {y : Nat × Nat} (hT : RTk c L S) (hy : RY c L y S) (hw : yW (tkK c L) y) (h : Ok (J (bI (decide (y.1 = 0 ∧ (24 ≤ tkK c L y.2 ∧ tkK c L y.2 ≤ 27))))) R) :
    Ok ((E_X12_is n S (8 : Int32)).bind fun v31 => jn J fun j55 => jn (j55 (1 : Int32)) fun j56 => if v31 = 0 then (E_X12_is n S (9 : Int32)).bind fun v58 => if v58 = 0 then (E_X12_is n S (10 : Int32)).bind fun v60 => if v60 = 0 then (E_X12_is n S (15 : Int32)).bind fun v62 => if v62 = 0 then j55 (0 : Int32) else j56 else j56 else j56 else j56) R := by
  have e1 : E_X12_is n S (8 : Int32) = _ := r_is (n := n) (k := 24) hT hy hw (by decide)
  have e2 : E_X12_is n S (9 : Int32) = _ := r_is (n := n) (k := 25) hT hy hw (by decide)
  have e3 : E_X12_is n S (10 : Int32) = _ := r_is (n := n) (k := 26) hT hy hw (by decide)
  have e4 : E_X12_is n S (15 : Int32) = _ := r_is (n := n) (k := 27) hT hy hw (by decide)
  simp only [jn]
  apply Ok.step e1
  have yes : (y.1 = 0 ∧ (24 ≤ tkK c L y.2 ∧ tkK c L y.2 ≤ 27)) → Ok (J (1 : Int32)) R := fun z => by rw [decide_eq_true z] at h; exact h
  by_cases c1 : y.1 = 0 ∧ tkK c L y.2 = 24
  · exact Ok.ifF (by rw [decide_eq_true c1]; decide) (yes ⟨c1.1, by omega⟩)
  refine Ok.ifT (by rw [decide_eq_false c1]; rfl) ?_
  apply Ok.step e2
  by_cases c2 : y.1 = 0 ∧ tkK c L y.2 = 25
  · exact Ok.ifF (by rw [decide_eq_true c2]; decide) (yes ⟨c2.1, by omega⟩)
  refine Ok.ifT (by rw [decide_eq_false c2]; rfl) ?_
  apply Ok.step e3
  by_cases c3 : y.1 = 0 ∧ tkK c L y.2 = 26
  · exact Ok.ifF (by rw [decide_eq_true c3]; decide) (yes ⟨c3.1, by omega⟩)
  refine Ok.ifT (by rw [decide_eq_false c3]; rfl) ?_
  apply Ok.step e4
  by_cases c4 : y.1 = 0 ∧ tkK c L y.2 = 27
  · exact Ok.ifF (by rw [decide_eq_true c4]; decide) (yes ⟨c4.1, by omega⟩)
  refine Ok.ifT (by rw [decide_eq_false c4]; rfl) ?_
  rw [decide_eq_false (by omega)] at h
  exact h
theorem r_strong {β : Type} {J : Int32 → Option β} {R : β → Prop} {y : Nat × Nat} (hT : RTk c L S) (hy : RY c L y S) (hw : yW (tkK c L) y) (h : Ok (J (bI (decide (y.1 = 0 ∧ (26 ≤ tkK c L y.2 ∧ tkK c L y.2 ≤ 27))))) R) :
    Ok ((E_X12_is n S (10 : Int32)).bind fun v41 => jn J fun j50 => jn (j50 (1 : Int32)) fun j51 => if v41 = 0 then (E_X12_is n S (15 : Int32)).bind fun v53 => if v53 = 0 then j50 (0 : Int32) else j51 else j51) R := by
  have e3 : E_X12_is n S (10 : Int32) = _ := r_is (n := n) (k := 26) hT hy hw (by decide)
  have e4 : E_X12_is n S (15 : Int32) = _ := r_is (n := n) (k := 27) hT hy hw (by decide)
  simp only [jn]
  have yes : (y.1 = 0 ∧ (26 ≤ tkK c L y.2 ∧ tkK c L y.2 ≤ 27)) → Ok (J (1 : Int32)) R := fun z => by rw [decide_eq_true z] at h; exact h
  apply Ok.step e3
  by_cases c3 : y.1 = 0 ∧ tkK c L y.2 = 26
  · exact Ok.ifF (by rw [decide_eq_true c3]; decide) (yes ⟨c3.1, by omega⟩)
  refine Ok.ifT (by rw [decide_eq_false c3]; rfl) ?_
  apply Ok.step e4
  by_cases c4 : y.1 = 0 ∧ tkK c L y.2 = 27
  · exact Ok.ifF (by rw [decide_eq_true c4]; decide) (yes ⟨c4.1, by omega⟩)
  refine Ok.ifT (by rw [decide_eq_false c4]; rfl) ?_
  rw [decide_eq_false (by omega)] at h
  exact h
/-- what one token of an expression leaves -/
def REs (c : Nat → Nat) (L b0 cb uc : Nat) (q0 q : CQ) (S0 S : ST) : Prop := Rch (tkK c L) (tkV c L) q0 q ∧ CQI (tkK c L) b0 q ∧ SameL q0 q ∧ RY c L q.y S ∧ Df (XEx uc (zQ cb q0)) S0 S
theorem RE_b {q : CQ} (hQ : CQI (tkK c L) b0 q) (hcb : cb + 420 ≤ uc + b0) : zQ cb q + q.o.length + q.s.length + 18 ≤ uc ∧ q.s.length ≤ 20 := by
  obtain ⟨hY, h4, h5, h6, h7, h8, h9, h10, h11, h12, h13, h14⟩ := hQ
  have h1 := SK_len h4
  have h2 := tpw_le h4
  refine ⟨?_, by omega⟩
  have e : totQ q = q.E.length + lfN q.lf + q.o.length + q.s.length + q.ng + (if q.pA = true then 1 else 0) + (if q.pO = true then 1 else 0) := rfl
  have h3 := lf_len q.lf
  have hy := hY.1
  have hy2 := hY.2.1
  unfold zQ
  omega
theorem r_unit {q0 q : CQ} {S0 : ST} (hT : RTk c L S) (hcb : cb + 420 ≤ uc + b0) (huc : uc ≤ 840) (h : REs c L b0 cb uc q0 q S0 S) (hd : q.y.1 = 0 → q.b = false ∧ RE cb q S ∧ (tkK c L q.y.2 ≠ 15 ∨ q.g = true) ∧ tkK c L q.y.2 ≠ 32) :
    Ok (E_X12_unit n S) (fun S' => ∃ q', REs c L b0 cb uc q0 q' S0 S' ∧ (q.y.1 = 0 → cms q'.y < cms q.y) ∧ (q.y.1 ≠ 0 → q'.y.1 ≠ 0) ∧ (q'.y.1 = 0 → q'.b = true ∧ RE cb q' S')) := by
  obtain ⟨hr, hQ, hs, hy, d⟩ := h
  have hw := hQ.1
  have e1 : E_X12_is n S (2 : Int32) = _ := r_is (n := n) (k := 21) hT hy hw (by decide)
  unfold E_X12_unit
  apply Ok.step e1
  by_cases h0 : q.y.1 = 0
  case neg =>
    refine Ok.ifT (by rw [decide_eq_false (fun z => h0 z.1)]; rfl) ?_
    apply Ok.jnU
    refine Ok.ifF (fun z => h0 ?_) ?_
    · rw [hy.1] at z
      have := hw.1
      exact (nI_eq (b := 0) (by omega) (by decide)).mp z
    obtain ⟨S1, e2, d1, y1, _⟩ := r_fail (n := n) (f := 1) hT hy hw
    rw [if_neg h0] at y1
    apply Ok.step (show E_X12_fail n S (1 : Int32) = some S1 from e2)
    exact Ok.ret ⟨q, ⟨hr, hQ, hs, y1, d.trans (XFl_Ex d1)⟩, fun z => absurd z h0, fun z => z, fun z => absurd z h0⟩
  obtain ⟨hb, hE, h15, h32⟩ := hd h0
  obtain ⟨hz, hs20⟩ := RE_b hQ hcb
  have nd := ncdn_b (K := tkK c L) h0 hb
  obtain ⟨hQ', hm⟩ := hQ.st (V := tkV c L) nd
  have hkl := tkK_le (c := c) (L := L) (j := q.y.2)
  have ez : zQ cb q = zQ cb q0 := hs.z
  have hp := hT q.y.2 hw.2.1 hw.2.2
  have e11 := hy.2.1 h0
  -- a code comes
  have emit : (tkK c L q.y.2 = 21 ∨ (16 ≤ tkK c L q.y.2 ∧ tkK c L q.y.2 ≤ 19)) → ∀ k v, k = cdK (tkK c L q.y.2) → v = cdV (cod (tkV c L) (tkK c L q.y.2) q.y.2) → Ok ((E_X12_emit n S (nI k) (nI v)).bind fun S18 => (E_X12_goesOn n S18).bind fun S20 => some S20) (fun S' => ∃ q', REs c L b0 cb uc q0 q' S0 S' ∧ (q.y.1 = 0 → cms q'.y < cms q.y) ∧ (q.y.1 ≠ 0 → q'.y.1 ≠ 0) ∧ (q'.y.1 = 0 → q'.b = true ∧ RE cb q' S')) := fun hk k v ek ev => by
    have ecs := cst_unit (K := tkK c L) (V := tkV c L) hb hk
    obtain ⟨S1, f1, d1, p1, p2, p3⟩ := r_emit (n := n) (k := k) (v := v) (cod (tkV c L) (tkK c L q.y.2) q.y.2) hE.2.2.2.1 (by omega) huc ek (fun _ => ev)
    apply Ok.step f1
    have hT1 := hT.ex d1
    have hy1 : RY c L q.y S1 := hy.fr (fun j hj => p3 _ _ (by omega) (by omega) (by omega))
    obtain ⟨S2, f2, d2, y2⟩ := r_goesOn (n := n) hT1 hy1 hw
    apply Ok.step f2
    rw [← tk_gy (K := tkK c L) (k := tkK c L q.y.2) (fun _ => rfl)] at y2
    have o2 : ∀ a j, (a ≠ 95 ∨ (j ≠ 11 ∧ j ≠ 13 ∧ j ≠ 14)) → S2.1 a j = S1.1 a j := fun a j hj => d2.2 _ _ (by
      simp only [XFl, Bool.and_eq_false_iff, Bool.or_eq_false_iff, beq_eq_false_iff_ne]; omega)
    refine Ok.ret ⟨cst (tkK c L) (tkV c L) q, ⟨hr.tr (Rch.one nd), hQ', hs.tr ?_, ?_, (d.trans (XEx.mono (by omega) d1)).trans (XFl_Ex d2)⟩, fun _ => hm, fun z => absurd h0 z, fun z => ?_⟩
    · rw [ecs]; exact ⟨rfl, rfl, rfl, rfl⟩
    · rw [ecs]; exact y2
    · rw [ecs]
      refine ⟨rfl, ?_, ?_, ?_, ?_, ?_⟩
      · show S2.1 95 12 = nI (opn q.s)
        rw [o2 _ _ (by omega), p3 _ _ (by omega) (by omega) (by omega)]; exact hE.1
      · show S2.1 95 57 = nI q.s.length
        rw [o2 _ _ (by omega), p3 _ _ (by omega) (by omega) (by omega)]; exact hE.2.1
      · exact hE.2.2.1.fr (fun j _ => by rw [o2 _ _ (by omega), p3 _ _ (by omega) (by omega) (by omega)])
      · show S2.1 95 53 = nI (zQ cb q + (q.o ++ [_]).length)
        rw [o2 _ _ (by omega), p1, List.length_append]; rfl
      · show CdR (zQ cb q) (q.o ++ [_]) S2
        refine CdR.app (hE.2.2.2.2.fr (fun j h1 h2 => ?_)) (p2.fr (fun j _ _ => ⟨o2 _ _ (by omega), o2 _ _ (by omega)⟩))
        have hx1 : XEx uc (zQ cb q + q.o.length) 134 j = false := by
          simp only [XEx, Bool.or_eq_false_iff, Bool.and_eq_false_iff, beq_eq_false_iff_ne, decide_eq_false_iff_not]
          omega
        have hx2 : XEx uc (zQ cb q + q.o.length) 135 j = false := by
          simp only [XEx, Bool.or_eq_false_iff, Bool.and_eq_false_iff, beq_eq_false_iff_ne, decide_eq_false_iff_not]
          omega
        rw [o2 _ _ (by omega), o2 _ _ (by omega)]
        exact ⟨d1.2 _ _ hx1, d1.2 _ _ hx2⟩
  by_cases c1 : tkK c L q.y.2 = 21
  · refine Ok.ifF (by rw [decide_eq_true ⟨h0, c1⟩]; decide) ?_
    rw [e11]
    apply Ok.step (rd_nI (by omega) (by decide))
    rw [hp.2.2.1 c1]
    refine emit (Or.inl c1) 0 _ (by rw [c1]; rfl) ?_
    unfold cod cdV
    dsimp only
    rw [if_pos c1, if_pos c1]
  refine Ok.ifT (by rw [decide_eq_false (fun z => c1 z.2)]; rfl) ?_
  apply Ok.jnU
  refine Ok.ifT (by rw [hy.1, h0]; rfl) ?_
  rw [e11]
  apply Ok.step (rd_nI (by omega) (by decide))
  rw [hp.1]
  have no : ¬ (tkK c L q.y.2 = 21 ∨ (16 ≤ tkK c L q.y.2 ∧ tkK c L q.y.2 ≤ 19)) → Ok ((E_X12_fail n S (1 : Int32)).bind fun S4 => some S4) (fun S' => ∃ q', REs c L b0 cb uc q0 q' S0 S' ∧ (q.y.1 = 0 → cms q'.y < cms q.y) ∧ (q.y.1 ≠ 0 → q'.y.1 ≠ 0) ∧ (q'.y.1 = 0 → q'.b = true ∧ RE cb q' S')) := fun hk => by
    have ecs := cst_no (K := tkK c L) (V := tkV c L) hb h15 h32 hk
    obtain ⟨S1, e2, d1, y1, _⟩ := r_fail (n := n) (f := 1) hT hy hw
    rw [if_pos h0] at y1
    apply Ok.step (show E_X12_fail n S (1 : Int32) = some S1 from e2)
    refine Ok.ret ⟨cst (tkK c L) (tkV c L) q, ⟨hr.tr (Rch.one nd), hQ', hs.tr ?_, ?_, d.trans (XFl_Ex d1)⟩, fun _ => hm, fun z => absurd h0 z, fun z => ?_⟩
    · rw [ecs]; exact ⟨rfl, rfl, rfl, rfl⟩
    · rw [ecs]; exact y1
    · rw [ecs] at z; exact absurd z Nat.one_ne_zero
  have hkv : ∀ k : Fin 36, (kR k.val < 36 ↔ ¬ (16 ≤ k.val ∧ k.val ≤ 19)) ∧ ((16 ≤ k.val ∧ k.val ≤ 19) → kR k.val = k.val + 20) := by decide
  obtain ⟨v1, v2⟩ := hkv ⟨tkK c L q.y.2, by omega⟩
  dsimp only at v1 v2
  have hk40 := kR_lt (a := tkK c L q.y.2) (by omega)
  by_cases c2 : 16 ≤ tkK c L q.y.2 ∧ tkK c L q.y.2 ≤ 19
  · have v3 := v2 c2
    refine Ok.ifF (nI_nlt (b := 36) (by omega) (by omega)) ?_
    apply Ok.step (rd_nI (by omega) (by decide))
    rw [hp.1]
    refine Ok.ifF (nI_nlt (a := 39) (by omega) (by omega)) ?_
    apply Ok.step (rd_nI (by omega) (by decide))
    rw [hp.1, v3]
    have es : nI (tkK c L q.y.2 + 20) - (36 : Int32) = nI (tkK c L q.y.2 - 16) := by
      have := nI_subC 36 (tkK c L q.y.2 - 16)
      rw [show 36 + (tkK c L q.y.2 - 16) = tkK c L q.y.2 + 20 by omega] at this
      exact this
    rw [es]
    refine emit (Or.inr c2) 1 _ ?_ ?_
    · unfold cdK; rw [if_neg c1, if_pos (by omega)]
    · unfold cod cdV; dsimp only; rw [if_neg c1]
  · refine Ok.ifT (nI_lt (b := 36) (by omega) (by decide)) ?_
    exact no (by omega)
end RFX
