/-! ===== the class: names ===== -/
def NTC (T : NTb) (S : ST) : Prop := S.1 18 4 = nI T.length ∧ T.length ≤ 32 ∧ ∀ j, j < T.length → S.2 19 j = nL (T.getD j (0, 0, 0)).1 ∧ S.1 20 j = nI (T.getD j (0, 0, 0)).2.1 ∧ S.1 21 j = nI (T.getD j (0, 0, 0)).2.2
/-- the first fault in what is said, by the class -/
def FC (sf : SF) (S : ST) : Prop := (sf = none → S.1 18 5 = 0) ∧ ∀ x, sf = some x → S.1 18 5 = nI x.1 ∧ S.1 18 6 = nI x.2 ∧ x.1 ≠ 0 ∧ x.1 < 10
def XFc (a j : Nat) : Bool := a == 18 && (j == 5 || j == 6)
/-- values that longs hold -/
def NTv (T : NTb) : Prop := ∀ e ∈ T, e.1 < 2 ^ 63 ∧ e.2.1 < 11 ∧ e.2.2 < 100
section CNM
variable {n L : Nat} {c : Nat → Nat} {S S' : ST}
theorem NTC.fr {T : NTb} (h : NTC T S) (d : Df XFc S S') : NTC T S' := by
  obtain ⟨h1, h2, h3⟩ := h
  have o : ∀ a j, (a ≠ 18 ∨ j = 4) → S'.1 a j = S.1 a j := fun a j hj => d.2 _ _ (by simp only [XFc, Bool.and_eq_false_iff, Bool.or_eq_false_iff, beq_eq_false_iff_ne]; omega)
  refine ⟨by rw [o _ _ (by omega)]; exact h1, h2, fun j hj => ?_⟩
  rw [d.1, o _ _ (by omega), o _ _ (by omega)]
  exact h3 j hj
theorem CTk.fc (h : CTk c L S) (d : Df XFc S S') : CTk c L S' := h.d2 (D2.of (Y := YN) d) (fun a j hx => by
  simp only [XSc, Bool.or_eq_true, Bool.and_eq_true, beq_iff_eq] at hx
  simp only [XFc, Bool.and_eq_false_iff, beq_eq_false_iff_ne]
  omega) rfl
theorem c_find {T : NTb} {j : Nat} (hn : 30000 ≤ n) (hT : CTk c L S) (hj : j ≤ 400) (hv : ∀ i, i < j → tkK c L i ≠ 35) (hk : tkK c L j ≠ 35) (hN : NTC T S) (hw : NTv T) : Ok (E_X8_find n S (nI j)) (fun r => (lk T (tkV c L j) = none → r = -1) ∧ ∀ e, lk T (tkV c L j) = some e → ∃ i, i < T.length ∧ r = nI i ∧ T.getD i (0, 0, 0) = e) := by
  obtain ⟨h1, h2, h3⟩ := hN
  have hv63 := tkV_63 (c := c) (L := L) (j := j)
  unfold E_X8_find
  apply Ok.step (c_value hT hj hv hk)
  have eqv : ∀ i, i < T.length → (lg_cmp (S.2 19 i) (nL (tkV c L j)) = 0 ↔ (T.getD i (0, 0, 0)).1 = tkV c L j) := fun i hi => by
    rw [lg_cmp_eq, (h3 i hi).1, nL_inj (hw _ (getD_mem hi)).1 hv63]
  refine bindS T.length (fun i => (T.getD i (0, 0, 0)).1 == tkV c L j) (fun i => .inr (nI i)) (.inl ()) (by omega) ?_ ?_ ?_ ?_
  · intro i hi
    refine Ok.ifF (by rw [h1]; exact nI_ge hi (by omega)) ?_
    apply Ok.step (rd_nI (by omega) (by decide))
    by_cases e : (T.getD i (0, 0, 0)).1 = tkV c L j
    · refine Ok.ifT ((eqv i hi).mpr e) (Ok.ret ?_)
      rw [if_pos (beq_iff_eq.mpr e)]
    · refine Ok.ifF (fun z => e ((eqv i hi).mp z)) (Ok.ret ?_)
      rw [if_neg (fun z => e (beq_iff_eq.mp z)), nI_1]
  · exact Ok.ifT (by rw [h1]; exact nI_le (Nat.le_refl _) (by omega)) (Ok.ret rfl)
  · intro i hi hp hlt
    refine Ok.ret ⟨fun hl => absurd (beq_iff_eq.mp hp) (lk_none hl _ (getD_mem hi)), fun e hl => ⟨i, hi, rfl, ?_⟩⟩
    -- the first is found
    have key : ∀ (T : NTb) (v i : Nat), i < T.length → (T.getD i (0, 0, 0)).1 = v → (∀ j, j < i → (T.getD j (0, 0, 0)).1 ≠ v) → lk T v = some (T.getD i (0, 0, 0)) := by
      intro T
      induction T with
      | nil => intro v i hi; exact absurd hi (Nat.not_lt_zero i)
      | cons x r ih =>
        intro v i hi hv hlt
        cases i with
        | zero =>
          have hx : x.1 = v := hv
          show (x :: r).find? _ = some x
          rw [List.find?_cons_of_pos (by exact beq_iff_eq.mpr hx)]
        | succ i =>
          have hx : x.1 ≠ v := hlt 0 (Nat.succ_pos i)
          show (x :: r).find? _ = _
          rw [List.find?_cons_of_neg (by exact fun z => hx (beq_iff_eq.mp z))]
          exact ih v i (Nat.lt_of_succ_lt_succ hi) hv (fun j hj => hlt (j + 1) (Nat.succ_lt_succ hj))
    have := key T (tkV c L j) i hi (beq_iff_eq.mp hp) (fun j' hj' z => by
      have := hlt j' hj'
      rw [z] at this
      exact absurd this (by simp))
    rw [this] at hl
    exact Option.some.inj hl
  · intro hall
    refine Ok.ret ⟨fun _ => rfl, fun e hl => ?_⟩
    obtain ⟨m1, m2⟩ := lk_some hl
    obtain ⟨i, hi, hi2⟩ := mem_getD m1
    have := hall i hi
    rw [hi2, m2] at this
    exact absurd this (by simp)
theorem c_refuse {f j : Nat} {sf : SF} (hF : FC sf S) (hf : f ≠ 0) (hf2 : f < 10) : Ok (E_X8_refuse n S (nI f) (nI j)) (fun S' => Df XFc S S' ∧ FC (orF sf (some (f, j))) S') := by
  unfold E_X8_refuse
  cases sf with
  | none =>
    refine Ok.ifT (hF.1 rfl) ?_
    apply Ok.letsU
    apply Ok.letsU
    refine Ok.ret ⟨((Df.refl _ _).up rfl).up rfl, (fun z => by cases z), fun x hx => ?_⟩
    have hx' : (f, j) = x := Option.some.inj hx
    subst hx'
    refine ⟨?_, ?_, hf, hf2⟩
    · rw [upI_at, if_neg (by omega), upI_at, if_pos ⟨rfl, rfl⟩]
    · rw [upI_at, if_pos ⟨rfl, rfl⟩]
  | some x =>
    obtain ⟨g1, g2, g3, g4⟩ := hF.2 x rfl
    refine Ok.ifF (fun z => g3 ?_) (Ok.ret ⟨Df.refl _ _, hF⟩)
    rw [g1] at z
    exact (nI_eq (b := 0) (by omega) (by decide)).mp z
theorem c_oldName {T : NTb} {j k : Nat} {sf : SF} (hn : 30000 ≤ n) (hT : CTk c L S) (hj : j ≤ 400) (hv : ∀ i, i < j → tkK c L i ≠ 35) (hk : tkK c L j ≠ 35) (hN : NTC T S) (hw : NTv T) (hF : FC sf S) (hk3 : k < 11) : Ok (E_X8_oldName n S (nI k) (nI j)) (fun r => r.1 = nI (oN (tkV c L) T k j) ∧ Df XFc S r.2 ∧ FC (orF sf (cOld (tkV c L) T k j)) r.2) := by
  unfold E_X8_oldName
  obtain ⟨v, e1, g1, g2⟩ := c_find hn hT hj hv hk hN hw
  apply Ok.step e1
  apply Ok.jnU
  have no : oldN (tkV c L) T k j = none → Ok ((E_X8_refuse n S (4 : Int32) (nI j)).bind fun S3 => some ((0 : Int32), S3)) (fun r => r.1 = nI (oN (tkV c L) T k j) ∧ Df XFc S r.2 ∧ FC (orF sf (cOld (tkV c L) T k j)) r.2) := fun h => by
    obtain ⟨S1, f1, d1, w1⟩ := c_refuse (n := n) (f := 4) (j := j) hF (by decide) (by decide)
    apply Ok.step (show E_X8_refuse n S (4 : Int32) (nI j) = some S1 from f1)
    have e2 : cOld (tkV c L) T k j = some (4, j) := by unfold cOld; rw [h]; rfl
    have e3 : oN (tkV c L) T k j = 0 := by unfold oN; rw [h]; rfl
    rw [e2, e3]
    exact Ok.ret ⟨rfl, d1, w1⟩
  cases hl : lk T (tkV c L j) with
  | none =>
    refine Ok.ifT (g1 hl) (no ?_)
    unfold oldN; rw [hl]; rfl
  | some e =>
    obtain ⟨i, hi, ei, ee⟩ := g2 e hl
    obtain ⟨m1, m2⟩ := lk_some hl
    obtain ⟨q1, q2, q3⟩ := hw e m1
    obtain ⟨t1, t2, t3⟩ := hN
    rw [ei]
    refine Ok.ifF (nI_m1 (by omega)) ?_
    apply Ok.step (rd_nI (by omega) (by decide))
    rw [(t3 i hi).2.1, ee]
    by_cases ek : e.2.1 = k
    · refine Ok.ifT (by rw [ek]) ?_
      apply Ok.step (rd_nI (by omega) (by decide))
      rw [(t3 i hi).2.2, ee]
      have eo : oldN (tkV c L) T k j = some e.2.2 := by unfold oldN; rw [hl]; exact if_pos ek
      have e2 : cOld (tkV c L) T k j = none := by unfold cOld; rw [eo]; rfl
      rw [e2, oN_of eo, orF_r]
      exact Ok.ret ⟨rfl, Df.refl _ _, hF⟩
    · refine Ok.ifF (fun z => ek ((nI_eq (by omega) (by omega)).mp z)) (no ?_)
      unfold oldN; rw [hl]; exact if_neg ek
theorem c_bounds {j lo hi : Nat} {sf : SF} (hT : CTk c L S) (hj : j ≤ 400) (hv : ∀ i, i < j → tkK c L i ≠ 35) (hk : tkK c L j = 21) (hF : FC sf S) (hlo : lo < 10000) (hhi : hi < 10000) : Ok (E_X8_within n S (nI j) (nI lo) (nI hi)) (fun r => r.1 = nI (if lo ≤ tkV c L j ∧ tkV c L j ≤ hi then tkV c L j else lo) ∧ Df XFc S r.2 ∧ FC (orF sf (cIn (tkV c L) lo hi j)) r.2) := by
  have hlt := tkV_lt hk
  unfold E_X8_within
  apply Ok.step (c_value hT hj hv (by rw [hk]; decide))
  rw [nI_long]
  apply Ok.jnU
  have no : ¬ (lo ≤ tkV c L j ∧ tkV c L j ≤ hi) → Ok ((E_X8_refuse n S (5 : Int32) (nI j)).bind fun S3 => some (nI lo, S3)) (fun r => r.1 = nI (if lo ≤ tkV c L j ∧ tkV c L j ≤ hi then tkV c L j else lo) ∧ Df XFc S r.2 ∧ FC (orF sf (cIn (tkV c L) lo hi j)) r.2) := fun h => by
    obtain ⟨S1, f1, d1, w1⟩ := c_refuse (n := n) (f := 5) (j := j) hF (by decide) (by decide)
    apply Ok.step (show E_X8_refuse n S (5 : Int32) (nI j) = some S1 from f1)
    have e2 : cIn (tkV c L) lo hi j = some (5, j) := if_neg h
    rw [e2, if_neg h]
    exact Ok.ret ⟨rfl, d1, w1⟩
  by_cases c1 : lo ≤ tkV c L j
  case neg => exact Ok.ifT (nI_lt (by omega) (by omega)) (no (fun z => c1 z.1))
  refine Ok.ifF (nI_nlt c1 (by omega)) ?_
  by_cases c2 : tkV c L j ≤ hi
  case neg => exact Ok.ifF (nI_ge (by omega) (by omega)) (no (fun z => c2 z.2))
  refine Ok.ifT (nI_le c2 (by omega)) ?_
  have e2 : cIn (tkV c L) lo hi j = none := if_pos ⟨c1, c2⟩
  rw [e2, if_pos ⟨c1, c2⟩, orF_r]
  exact Ok.ret ⟨rfl, Df.refl _ _, hF⟩
def XNw (nn a j : Nat) : Bool := (a == 18 && (j == 4 || (j == 5 || j == 6))) || ((a == 20 || a == 21) && j == nn)
def YNw (a : Nat) : Bool := a == 19
theorem c_newName {T : NTb} {j k m w : Nat} (hn : 30000 ≤ n) (hT : CTk c L S) (hj : j ≤ 400) (hv : ∀ i, i < j → tkK c L i ≠ 35) (hk : tkK c L j ≠ 35) (hN : NTC T S) (hw : NTv T) (hF : FC none S) (hk3 : k < 11) (hw2 : w = 22 ∨ w = 47) (hm : S.1 (w + 1) k = nI m) (hlen : T.length < 32) : Ok (E_X8_newName n S w (nI k) (nI j)) (fun S' => D2 (XNw T.length) YNw S S' ∧ FC (cNew (tkV c L) T j) S' ∧ (cNew (tkV c L) T j = none → NTC (T ++ [(tkV c L j, k, m)]) S') ∧ (cNew (tkV c L) T j ≠ none → NTC T S')) := by
  unfold E_X8_newName
  obtain ⟨v, e1, g1, g2⟩ := c_find hn hT hj hv hk hN hw
  apply Ok.step e1
  have hN0 := hN
  obtain ⟨t1, t2, t3⟩ := hN
  cases hl : lk T (tkV c L j) with
  | some e =>
    obtain ⟨i, hi, ei, ee⟩ := g2 e hl
    rw [ei]
    refine Ok.ifF (nI_m1 (by omega)) ?_
    obtain ⟨S1, f1, d1, w1⟩ := c_refuse (n := n) (f := 3) (j := j) hF (by decide) (by decide)
    apply Ok.step (show E_X8_refuse n S (3 : Int32) (nI j) = some S1 from f1)
    have e2 : cNew (tkV c L) T j = some (3, j) := by unfold cNew; rw [hl]; rfl
    rw [e2]
    refine Ok.ret ⟨(D2.of d1).mono (fun a i hx => ?_) (fun _ h => h), w1, (fun z => by cases z), fun _ => hN0.fr d1⟩
    simp only [XFc, XNw, Bool.or_eq_false_iff, Bool.and_eq_false_iff, beq_eq_false_iff_ne] at hx ⊢
    omega
  | none =>
    have e2 : cNew (tkV c L) T j = none := by unfold cNew; rw [hl]; rfl
    rw [e2]
    refine Ok.ifT (g1 hl) (Ok.ifF (by rw [t1]; exact nI_ge (b := 32) hlen (by decide)) ?_)
    apply Ok.step (c_value hT hj hv hk)
    rw [t1]
    apply Ok.step (wrl_nI hlen (by decide))
    rw [upL_1, t1]
    apply Ok.step (wr_nI hlen (by decide))
    apply Ok.step (x := nI m) (by rw [rd_nI hk3 (by decide), upI_at, if_neg (by omega)]; exact congrArg some hm)
    rw [upI_at, if_neg (by omega), upL_1, t1]
    apply Ok.step (wr_nI hlen (by decide))
    apply Ok.letsU
    have x20 : XNw T.length 20 T.length = true := by simp [XNw]
    have x21 : XNw T.length 21 T.length = true := by simp [XNw]
    refine Ok.ret ⟨((((D2.refl _ _ _).upl rfl).up x20).up x21).up rfl, ⟨fun _ => ?_, (fun x hx => by cases hx)⟩, fun _ => ⟨?_, ?_, fun i hi => ?_⟩, fun z => absurd rfl z⟩
    · rw [upI_at, if_neg (by omega), upI_at, if_neg (by omega), upI_at, if_neg (by omega), upL_1]; exact hF.1 rfl
    · rw [upI_at, if_pos ⟨rfl, rfl⟩, upI_at, if_neg (by omega), upI_at, if_neg (by omega), upL_1, t1, nI_1, List.length_append]; rfl
    · rw [List.length_append]; exact hlen
    · rw [List.length_append] at hi
      simp only [List.length_cons, List.length_nil] at hi
      by_cases ei : i = T.length
      · rw [ei, getD_last]
        refine ⟨?_, ?_, ?_⟩
        · show (upL S 19 T.length _).2 19 T.length = _
          rw [upL_at, if_pos ⟨rfl, rfl⟩]
        · rw [upI_at, if_neg (by omega), upI_at, if_neg (by omega), upI_at, if_pos ⟨rfl, rfl⟩]
        · rw [upI_at, if_neg (by omega), upI_at, if_pos ⟨rfl, rfl⟩]
      · rw [getD_app (by omega)]
        obtain ⟨q1, q2, q3⟩ := t3 i (by omega)
        refine ⟨?_, ?_, ?_⟩
        · show (upL S 19 T.length _).2 19 i = _
          rw [upL_at, if_neg (by omega)]; exact q1
        · rw [upI_at, if_neg (by omega), upI_at, if_neg (by omega), upI_at, if_neg (by omega), upL_1]; exact q2
        · rw [upI_at, if_neg (by omega), upI_at, if_neg (by omega), upI_at, if_neg (by omega), upL_1]; exact q3
end CNM
