/-! ===== the reference goes through a comparison ===== -/
def oddI (ng : Nat) : Bool := ng % 2 == 1
def LitR (x : LT) (i c0 : Nat) (S : ST) : Prop := S.1 128 i = nI x.2.2.1 ∧ S.1 129 i = bI (oddI x.2.1) ∧ S.1 130 i = bI x.1 ∧ S.1 131 i = nI c0 ∧ S.1 132 i = nI (c0 + x.2.2.2.1.length) ∧ S.1 133 i = nI (c0 + x.2.2.2.1.length + x.2.2.2.2.length) ∧ CdR c0 x.2.2.2.1 S ∧ CdR (c0 + x.2.2.2.1.length) x.2.2.2.2 S
def LitsR : List LT → Nat → Nat → ST → Prop
  | [], _, _, _ => True
  | x :: r, i, c0, S => LitR x i c0 S ∧ LitsR r (i + 1) (c0 + (x.2.2.2.1.length + x.2.2.2.2.length)) S
theorem LitsR.app {a b : List LT} {S : ST} : ∀ {i c0 : Nat}, LitsR a i c0 S → LitsR b (i + a.length) (c0 + cdt a) S → LitsR (a ++ b) i c0 S := by
  induction a with
  | nil => intro i c0 _ h; exact h
  | cons x a ih =>
    intro i c0 h h2
    rw [List.length_cons, cdt] at h2
    refine ⟨h.1, ih h.2 ?_⟩
    rw [show i + 1 + a.length = i + (a.length + 1) by omega, show c0 + (x.2.2.2.1.length + x.2.2.2.2.length) + cdt a = c0 + (x.2.2.2.1.length + x.2.2.2.2.length + cdt a) by omega]
    exact h2
theorem LitR.fr {x : LT} {i c0 : Nat} {S S' : ST} (h : LitR x i c0 S) (e : ∀ a, 128 ≤ a → a ≤ 133 → S'.1 a i = S.1 a i) (e2 : ∀ a j, a = 134 ∨ a = 135 → j < c0 + (x.2.2.2.1.length + x.2.2.2.2.length) → S'.1 a j = S.1 a j) : LitR x i c0 S' := by
  obtain ⟨h1, h2, h3, h4, h5, h6, h7, h8⟩ := h
  refine ⟨by rw [e _ (by decide) (by decide)]; exact h1, by rw [e _ (by decide) (by decide)]; exact h2, by rw [e _ (by decide) (by decide)]; exact h3, by rw [e _ (by decide) (by decide)]; exact h4, by rw [e _ (by decide) (by decide)]; exact h5, by rw [e _ (by decide) (by decide)]; exact h6, h7.fr (fun j _ hj => ?_), h8.fr (fun j _ hj => ?_)⟩
  · exact ⟨e2 _ _ (Or.inl rfl) (by omega), e2 _ _ (Or.inr rfl) (by omega)⟩
  · exact ⟨e2 _ _ (Or.inl rfl) (by omega), e2 _ _ (Or.inr rfl) (by omega)⟩
theorem LitsR.fr {ls : List LT} {S S' : ST} : ∀ {i c0 : Nat}, LitsR ls i c0 S → (∀ a j, 128 ≤ a → a ≤ 133 → j < i + ls.length → S'.1 a j = S.1 a j) → (∀ a j, a = 134 ∨ a = 135 → j < c0 + cdt ls → S'.1 a j = S.1 a j) → LitsR ls i c0 S' := by
  induction ls with
  | nil => intro i c0 _ _ _; trivial
  | cons x r ih =>
    intro i c0 h e e2
    rw [List.length_cons] at e
    rw [cdt] at e2
    exact ⟨h.1.fr (fun a h1 h2 => e a i h1 h2 (by omega)) (fun a j h1 h2 => e2 a j h1 (by omega)), ih h.2 (fun a j h1 h2 h3 => e a j h1 h2 (by omega)) (fun a j h1 h2 => e2 a j h1 (by omega))⟩
theorem Rch.stop {K V : Nat → Nat} {q q' : CQ} (h : Rch K V q q') (d : cdn K q) : q' = q := by
  obtain ⟨n, h1, h2⟩ := h
  cases n with
  | zero => exact h1.symm
  | succ n => exact absurd d (h2 0 (by omega))
/-- cells of comparisons from a place on, of codes from a place on -/
def XLt (ul uc lt cb a j : Nat) : Bool := (a == 95 && ((j == 11 || j == 12) || ((j == 13 || j == 14) || (j == 53 || (j == 57 || j == 46))))) || (a == 136 || (((a == 134 || a == 135) && decide (cb ≤ j ∧ j < uc)) || (decide (128 ≤ a ∧ a ≤ 133) && decide (lt ≤ j ∧ j < ul))))
theorem XEx_Lt {ul uc lt cb z : Nat} (h : cb ≤ z) {S S' : ST} (d : Df (XEx uc z) S S') : Df (XLt ul uc lt cb) S S' := d.mono (fun a j hx => by
  simp only [XEx, XLt, Bool.or_eq_false_iff, Bool.and_eq_false_iff, beq_eq_false_iff_ne, decide_eq_false_iff_not] at hx ⊢
  omega)
theorem XFl_Lt {ul uc lt cb : Nat} {S S' : ST} (d : Df XFl S S') : Df (XLt ul uc lt cb) S S' := XEx_Lt (z := cb) (Nat.le_refl _) (XFl_Ex d)
theorem XLt.mono {ul uc lt cb lt' cb' : Nat} (h : lt ≤ lt') (h2 : cb ≤ cb') {S S' : ST} (d : Df (XLt ul uc lt' cb') S S') : Df (XLt ul uc lt cb) S S' := d.mono (fun a j hx => by
  simp only [XLt, Bool.or_eq_false_iff, Bool.and_eq_false_iff, beq_eq_false_iff_ne, decide_eq_false_iff_not] at hx ⊢
  omega)
section RFZ
variable {n L b0 cb lt ul uc : Nat} {c : Nat → Nat} {S : ST}
theorem RTk.lit {S S' : ST} (h : RTk c L S) (d : Df (XLt ul uc lt cb) S S') : RTk c L S' := h.d2 (D2.of (Y := YN) d) (fun a j h1 h2 => by
  simp only [XLt, Bool.or_eq_false_iff, Bool.and_eq_false_iff, beq_eq_false_iff_ne, decide_eq_false_iff_not]
  omega) rfl
theorem bI_and1 (b : Bool) : bI b &&& 1 = bI b := by cases b <;> decide
theorem cst_not {K V : Nat → Nat} {q : CQ} (hb : q.b = false) (hg : q.g = false) (hk : K q.y.2 = 15) : cst K V q = mkQ (tk K (K q.y.2) q.y) q.b q.g (q.ng + 1) q.lf q.o q.s q.orr q.ls q.E q.pO q.pA := by
  rw [cst.eq_1, if_pos hb, if_pos ⟨hk, hg⟩]
theorem cst_cmp {K V : Nat → Nat} {q : CQ} (hb : q.b = true) (hlf : q.lf = none) (ho : opn q.s = 0) (hk : 28 ≤ K q.y.2 ∧ K q.y.2 ≤ 31) : cst K V q = mkQ (tk K (K q.y.2) q.y) false q.g q.ng (some (K q.y.2 - 28, q.o ++ opsC (relO 1 q.s))) [] [] q.orr q.ls q.E q.pO q.pA := by
  rw [cst.eq_1, if_neg (by rw [hb]; decide), if_neg (by omega), if_neg (by omega), hlf]
  exact if_pos ⟨hk, ho⟩
theorem cst_ncmp {K V : Nat → Nat} {q : CQ} (hb : q.b = true) (hlf : q.lf = none) (ho : opn q.s = 0) (hop : ¬ (24 ≤ K q.y.2 ∧ K q.y.2 ≤ 27)) (hk : ¬ (28 ≤ K q.y.2 ∧ K q.y.2 ≤ 31)) : cst K V q = mkQ (1, q.y.2) q.b q.g q.ng q.lf q.o q.s q.orr q.ls q.E q.pO q.pA := by
  rw [cst.eq_1, if_neg (by rw [hb]; decide), if_neg (by omega), if_neg hop, hlf]
  exact if_neg (fun z => hk z.1)
/-- a comparison is begun -/
def LtB (q : CQ) : Prop := q.b = false ∧ q.g = false ∧ q.ng = 0 ∧ q.lf = none ∧ q.o = [] ∧ q.s = []
/-- a comparison is there, or a fault -/
def LtE (c : Nat → Nat) (L b0 cb lt ul uc : Nat) (q0 q : CQ) (S0 S : ST) : Prop := Rch (tkK c L) (tkV c L) q0 q ∧ CQI (tkK c L) b0 q ∧ RY c L q.y S ∧ Df (XLt ul uc lt (cb + cdt q0.ls)) S0 S ∧ (q.y.1 = 0 → q.b = true ∧ opn q.s = 0 ∧ ¬ (24 ≤ tkK c L q.y.2 ∧ tkK c L q.y.2 ≤ 27) ∧ q.ls = q0.ls ∧ q.orr = q0.orr ∧ S.1 95 12 = 0 ∧ S.1 95 46 = nI (lt + 1) ∧ ∃ how l, q.lf = some (how, l) ∧ S.1 95 53 = nI (cb + cdt q0.ls + (l.length + (q.o ++ opsC (relO 1 q.s)).length)) ∧ LitR (q.orr, q.ng, how, l, q.o ++ opsC (relO 1 q.s)) lt (cb + cdt q0.ls) S)
theorem r_literal {q0 : CQ} (hn : 30000 ≤ n) (hT : RTk c L S) (hQ0 : CQI (tkK c L) b0 q0) (hcb : cb + 420 ≤ uc + b0) (huc : uc ≤ 840) (hy0 : RY c L q0.y S) (h00 : q0.y.1 = 0) (hB : LtB q0) (h12 : S.1 95 12 = 0) (h53 : S.1 95 53 = nI (cb + cdt q0.ls)) (h46 : S.1 95 46 = nI lt) (hlt0 : lt < ul) (hul : ul ≤ 300) :
    Ok (E_X12_literal n S (bI q0.orr)) (fun S' => ∃ q, LtE c L b0 cb lt ul uc q0 q S S') := by
  have hlt : lt < 300 := by omega
  obtain ⟨hb0, hg0, hn0, hlf0, ho0, hs0⟩ := hB
  have hms : ∀ y : Nat × Nat, cms y ≤ 401 := fun y => by unfold cms; split <;> omega
  unfold E_X12_literal
  refine bindW (fun d (s : Int32 × ST) => ∃ q, s.1 = bI (oddI q.ng) ∧ d = cms q.y ∧ Rch (tkK c L) (tkV c L) q0 q ∧ CQI (tkK c L) b0 q ∧ RY c L q.y s.2 ∧ Df XFl S s.2 ∧ q.b = false ∧ q.g = false ∧ q.lf = none ∧ q.o = [] ∧ q.s = [] ∧ q.ls = q0.ls ∧ q.orr = q0.orr) (cms q0.y) (fun s => ∃ q, s.1 = bI (oddI q.ng) ∧ Rch (tkK c L) (tkV c L) q0 q ∧ CQI (tkK c L) b0 q ∧ RY c L q.y s.2 ∧ Df XFl S s.2 ∧ q.b = false ∧ q.g = false ∧ q.lf = none ∧ q.o = [] ∧ q.s = [] ∧ q.ls = q0.ls ∧ q.orr = q0.orr ∧ (q.y.1 = 0 → tkK c L q.y.2 ≠ 15)) (by have := hms q0.y; omega) ?_ ?_ ?_
  · exact ⟨q0, by rw [hn0]; rfl, rfl, Rch.rf _, hQ0, hy0, Df.refl _ _, hb0, hg0, hlf0, ho0, hs0, rfl, rfl⟩
  · rintro d ⟨u, S1⟩ ⟨q, rfl, rfl, hr, hQ, hy, d1, hb, hg, hlf, ho, hs, hls, hor⟩
    dsimp only at hy d1 ⊢
    have hw := hQ.1
    have hT1 := hT.fl d1
    have e1 : E_X12_is n S1 (35 : Int32) = _ := r_is (n := n) (k := 15) hT1 hy hw (by decide)
    apply Ok.step e1
    by_cases c1 : q.y.1 = 0 ∧ tkK c L q.y.2 = 15
    case neg => exact Ok.ifT (by rw [decide_eq_false c1]; rfl) (Ok.inr ⟨q, rfl, hr, hQ, hy, d1, hb, hg, hlf, ho, hs, hls, hor, fun z z2 => c1 ⟨z, z2⟩⟩)
    refine Ok.ifF (by rw [decide_eq_true c1]; decide) ?_
    have nd := ncdn_b (K := tkK c L) c1.1 hb
    obtain ⟨hQ2, hm2⟩ := hQ.st (V := tkV c L) nd
    have ecs := cst_not (K := tkK c L) (V := tkV c L) hb hg c1.2
    have go : ∀ u : Int32, u = bI (oddI (q.ng + 1)) → Ok ((E_X12_goesOn n S1).bind fun S6 => (some (.inl (u, S6)) : Option ((Int32 × ST) ⊕ (Int32 × ST)))) (Sum.elim (fun s => ∃ d', d' < cms q.y ∧ ∃ q, s.1 = bI (oddI q.ng) ∧ d' = cms q.y ∧ Rch (tkK c L) (tkV c L) q0 q ∧ CQI (tkK c L) b0 q ∧ RY c L q.y s.2 ∧ Df XFl S s.2 ∧ q.b = false ∧ q.g = false ∧ q.lf = none ∧ q.o = [] ∧ q.s = [] ∧ q.ls = q0.ls ∧ q.orr = q0.orr) (fun s => ∃ q, s.1 = bI (oddI q.ng) ∧ Rch (tkK c L) (tkV c L) q0 q ∧ CQI (tkK c L) b0 q ∧ RY c L q.y s.2 ∧ Df XFl S s.2 ∧ q.b = false ∧ q.g = false ∧ q.lf = none ∧ q.o = [] ∧ q.s = [] ∧ q.ls = q0.ls ∧ q.orr = q0.orr ∧ (q.y.1 = 0 → tkK c L q.y.2 ≠ 15))) := fun u hu => by
      obtain ⟨S2, f2, d2, y2⟩ := r_goesOn (n := n) hT1 hy hw
      apply Ok.step f2
      rw [← tk_gy (K := tkK c L) (k := tkK c L q.y.2) (fun _ => rfl)] at y2
      refine Ok.inl ⟨_, hm2, cst (tkK c L) (tkV c L) q, ?_, rfl, hr.tr (Rch.one nd), hQ2, ?_, d1.trans d2, ?_⟩
      · rw [ecs]; exact hu
      · rw [ecs]; exact y2
      · rw [ecs]; exact ⟨hb, hg, hlf, ho, hs, hls, hor⟩
    apply Ok.jnU
    have h2 : oddI (q.ng + 1) = !oddI q.ng := by
      unfold oddI
      rcases Nat.mod_two_eq_zero_or_one q.ng with z | z
      · have : (q.ng + 1) % 2 = 1 := by omega
        rw [z, this]; rfl
      · have : (q.ng + 1) % 2 = 0 := by omega
        rw [z, this]; rfl
    cases h3 : oddI q.ng
    · exact Ok.ifT rfl (go 1 (by rw [h2, h3]; rfl))
    · exact Ok.ifF (by decide) (go 0 (by rw [h2, h3]; rfl))
  · rintro ⟨u, S1⟩ ⟨q, rfl, hr, hQ, hy, d1, hb, hg, hlf, ho, hs, hls, hor, h15⟩
    dsimp only at hy d1 ⊢
    have o1 : ∀ a j, (a ≠ 95 ∨ (j ≠ 11 ∧ j ≠ 13 ∧ j ≠ 14)) → S1.1 a j = S.1 a j := fun a j hj => d1.2 _ _ (by simp only [XFl, Bool.and_eq_false_iff, Bool.or_eq_false_iff, beq_eq_false_iff_ne]; omega)
    have ez : zQ cb q = cb + cdt q0.ls := by unfold zQ; rw [hls, hlf]; rfl
    have e53 : S1.1 95 53 = nI (zQ cb q) := by rw [ez, o1 _ _ (by omega)]; exact h53
    obtain ⟨S2, f2, q1, ⟨hr1, hQ1, hs1, hy1, d2⟩, hx1⟩ := r_expr (n := n) (q0 := q) hn (hT.fl d1) hQ hcb huc hy (fun z => ⟨hb, ho, hs, by rw [o1 _ _ (by omega)]; exact h12, e53, Or.inl (h15 z)⟩)
    apply Ok.step f2
    rw [ez] at d2 hx1
    have dd2 : Df (XLt ul uc lt (cb + cdt q0.ls)) S S2 := (XFl_Lt d1).trans (XEx_Lt (Nat.le_refl _) d2)
    have hT2 := hT.lit dd2
    have hw1 := hQ1.1
    -- the way of a fault
    have flt : ∀ (S3 : ST) (q' : CQ) (u : Int32), Rch (tkK c L) (tkV c L) q0 q' → CQI (tkK c L) b0 q' → RY c L q'.y S3 → q'.y.1 ≠ 0 → cb + cdt q0.ls ≤ zQ cb q' → Df (XLt ul uc lt (cb + cdt q0.ls)) S S3 → Ok ((E_X12_goesOn n S3).bind fun S14 => (E_X12_expression n S14).bind fun S16 => if (S16.1 95 13) ≤ 0 then (wr S16 128 300 (S16.1 95 46) u).bind fun S18 => (wr S18 129 300 (S18.1 95 46) (bI (oddI q.ng) &&& 1)).bind fun S19 => (wr S19 130 300 (S19.1 95 46) (bI q0.orr &&& 1)).bind fun S20 => (wr S20 131 300 (S20.1 95 46) (S1.1 95 53)).bind fun S21 => (wr S21 132 300 (S21.1 95 46) (S14.1 95 53)).bind fun S22 => (wr S22 133 300 (S22.1 95 46) (S22.1 95 53)).bind fun S23 => lets (upI S23 95 46 ((S23.1 95 46) + (1 : Int32))) fun (S24 : ST) => some S24 else some S16) (fun S' => ∃ q, LtE c L b0 cb lt ul uc q0 q S S') := fun S3 q' u hr3 hQ3 hy3 hf hz d3 => by
      obtain ⟨S4, f4, d4, y4⟩ := r_goesOn (n := n) (hT.lit d3) hy3 hQ3.1
      apply Ok.step f4
      have eg : gy q'.y = q'.y := if_neg hf
      rw [eg] at y4
      have d4' : Df (XLt ul uc lt (cb + cdt q0.ls)) S S4 := d3.trans (XFl_Lt d4)
      obtain ⟨S5, f5, q5, ⟨hr5, hQ5, hs5, hy5, d5⟩, _⟩ := r_expr (n := n) (q0 := q') hn (hT.lit d4') hQ3 hcb huc y4 (fun z => absurd z hf)
      apply Ok.step f5
      have e5 := hr5.stop (Or.inl hf)
      subst e5
      refine Ok.ifF ?_ (Ok.ret ⟨q5, hr3, hQ5, hy5, d4'.trans (XEx_Lt hz d5), fun z => absurd z hf⟩)
      rw [hy5.1]
      have := hQ5.1.1
      exact nI_nle (by omega) (by omega)
    have hr01 := hr.tr hr1
    have hls1 : q1.ls = q0.ls := hs1.2.1.trans hls
    have hlf1 : q1.lf = none := hs1.1.trans hlf
    have ez1 : zQ cb q1 = cb + cdt q0.ls := by rw [hs1.z]; exact ez
    apply Ok.jnU
    by_cases h10 : q1.y.1 = 0
    case neg =>
      have hn1 : ¬ (S2.1 95 13 ≤ 0) := by rw [hy1.1]; have := hw1.1; exact nI_nle (by omega) (by omega)
      refine Ok.ifF hn1 ?_
      apply Ok.jnU
      refine Ok.ifF (fun z => hn1 (by rw [z]; decide)) ?_
      exact flt S2 q1 _ hr01 hQ1 hy1 h10 (by omega) dd2
    obtain ⟨g1, g2, g3, g4, g5, g6⟩ := hx1 h10
    refine Ok.ifT (by rw [hy1.1, h10]; decide) ?_
    rw [hy1.2.1 h10]
    have hw12 := hw1.2.1
    apply Ok.step (rd_nI (by omega) (by decide))
    rw [hT2.k hw1]
    apply Ok.jnU
    refine Ok.ifT (by rw [hy1.1, h10]; rfl) ?_
    apply Ok.jnU
    have hkl := tkK_le (c := c) (L := L) (j := q1.y.2)
    have nd1 : ¬ cdn (tkK c L) q1 := by
      rintro (z | ⟨_, _, _, z⟩)
      · exact z h10
      · exact z hlf1
    obtain ⟨hQ1', hm1⟩ := hQ1.st (V := tkV c L) nd1
    have hr1' := hr01.tr (Rch.one (V := tkV c L) nd1)
    by_cases c1 : 28 ≤ tkK c L q1.y.2 ∧ tkK c L q1.y.2 ≤ 31
    case neg =>
      have ecs := cst_ncmp (K := tkK c L) (V := tkV c L) g1 hlf1 g2 g3 c1
      have ffl : ∀ u : Int32, Ok ((E_X12_fail n S2 (1 : Int32)).bind fun S28 => (E_X12_goesOn n S28).bind fun S14 => (E_X12_expression n S14).bind fun S16 => if (S16.1 95 13) ≤ 0 then (wr S16 128 300 (S16.1 95 46) u).bind fun S18 => (wr S18 129 300 (S18.1 95 46) (bI (oddI q.ng) &&& 1)).bind fun S19 => (wr S19 130 300 (S19.1 95 46) (bI q0.orr &&& 1)).bind fun S20 => (wr S20 131 300 (S20.1 95 46) (S1.1 95 53)).bind fun S21 => (wr S21 132 300 (S21.1 95 46) (S14.1 95 53)).bind fun S22 => (wr S22 133 300 (S22.1 95 46) (S22.1 95 53)).bind fun S23 => lets (upI S23 95 46 ((S23.1 95 46) + (1 : Int32))) fun (S24 : ST) => some S24 else some S16) (fun S' => ∃ q, LtE c L b0 cb lt ul uc q0 q S S') := fun u => by
        obtain ⟨S3, f3, d3, y3, _⟩ := r_fail (n := n) (f := 1) hT2 hy1 hw1
        rw [if_pos h10] at y3
        apply Ok.step (show E_X12_fail n S2 (1 : Int32) = some S3 from f3)
        refine flt S3 (cst (tkK c L) (tkV c L) q1) u hr1' hQ1' ?_ ?_ ?_ (dd2.trans (XFl_Lt d3))
        · rw [ecs]; exact y3
        · rw [ecs]; exact Nat.one_ne_zero
        · rw [ecs]; show _ ≤ zQ cb q1; omega
      have hk0 : ∀ j : Fin 36, ¬ (28 ≤ j.val ∧ j.val ≤ 31) → nI (kR j.val) - (11 : Int32) < 0 ∨ (0 ≤ nI (kR j.val) - (11 : Int32) ∧ ¬ nI (kR j.val) - (11 : Int32) ≤ 3) := by decide
      rcases hk0 ⟨tkK c L q1.y.2, by omega⟩ c1 with z | ⟨z1, z2⟩
      · exact Ok.ifT z (ffl _)
      · exact Ok.ifF (Int32.not_lt.mpr z1) (Ok.ifF z2 (ffl _))
    have hk1 : ∀ j : Fin 36, (28 ≤ j.val ∧ j.val ≤ 31) → nI (kR j.val) - (11 : Int32) = nI (j.val - 28) := by decide
    have ek := hk1 ⟨tkK c L q1.y.2, by omega⟩ c1
    dsimp only at ek
    rw [ek]
    refine Ok.ifF (nI_pos (by omega)) (Ok.ifT (nI_le (b := 3) (by omega) (by decide)) ?_)
    have ecs := cst_cmp (K := tkK c L) (V := tkV c L) g1 hlf1 g2 c1
    obtain ⟨S3, f3, d3, y3⟩ := r_goesOn (n := n) hT2 hy1 hw1
    rw [← tk_gy (K := tkK c L) (k := tkK c L q1.y.2) (fun _ => rfl)] at y3
    have o3 : ∀ a j, (a ≠ 95 ∨ (j ≠ 11 ∧ j ≠ 13 ∧ j ≠ 14)) → S3.1 a j = S2.1 a j := fun a j hj => d3.2 _ _ (by simp only [XFl, Bool.and_eq_false_iff, Bool.or_eq_false_iff, beq_eq_false_iff_ne]; omega)
    have d3' : Df (XLt ul uc lt (cb + cdt q0.ls)) S S3 := dd2.trans (XFl_Lt d3)
    generalize eL : q1.o ++ opsC (relO 1 q1.s) = Lf at *
    have ez2 : zQ cb (cst (tkK c L) (tkV c L) q1) = cb + cdt q0.ls + Lf.length := by
      rw [ecs]
      show cb + (cdt q1.ls + Lf.length) = _
      rw [hls1]; omega
    have hy2 : RY c L (cst (tkK c L) (tkV c L) q1).y S3 := by rw [ecs]; exact y3
    obtain ⟨S4, f4, q3, ⟨hr3, hQ3, hs3, hy3, d4⟩, hx3⟩ := r_expr (n := n) (q0 := cst (tkK c L) (tkV c L) q1) hn (hT.lit d3') hQ1' hcb huc hy2 (fun z => by
      refine ⟨?_, ?_, ?_, ?_, ?_, Or.inr ?_⟩
      · rw [ecs]
      · rw [ecs]
      · rw [ecs]
      · rw [o3 _ _ (by omega)]; exact g4
      · rw [ez2, o3 _ _ (by omega)]; exact g5
      · rw [ecs]; exact hQ1.2.2.2.2.2.2.2.2.2.2.1 g1)
    apply Ok.step f3
    apply Ok.step f4
    rw [ez2] at d4 hx3
    have d4' : Df (XLt ul uc lt (cb + cdt q0.ls)) S S4 := d3'.trans (XEx_Lt (by omega) d4)
    by_cases h30 : q3.y.1 = 0
    case neg =>
      refine Ok.ifF ?_ (Ok.ret ⟨q3, hr1'.tr hr3, hQ3, hy3, d4', fun z => absurd z h30⟩)
      rw [hy3.1]
      have := hQ3.1.1
      exact nI_nle (by omega) (by omega)
    obtain ⟨k1, k2, k3, k4, k5, k6⟩ := hx3 h30
    refine Ok.ifT (by rw [hy3.1, h30]; decide) ?_
    have o4 : ∀ a j, a ≠ 95 → a ≠ 134 → a ≠ 135 → a ≠ 136 → S4.1 a j = S3.1 a j := fun a j h1 h2 h3 h4 => d4.2 _ _ (by
      simp only [XEx, Bool.or_eq_false_iff, Bool.and_eq_false_iff, beq_eq_false_iff_ne, decide_eq_false_iff_not]; omega)
    have e46 : S4.1 95 46 = nI lt := by
      rw [d4.2 _ _ rfl, o3 _ _ (by omega), d2.2 _ _ rfl, o1 _ _ (by omega)]; exact h46
    have e3 : S3.1 95 53 = nI (cb + cdt q0.ls + Lf.length) := by rw [o3 _ _ (by omega)]; exact g5
    rw [o1 95 53 (by omega), h53, e3, e46]
    apply Ok.step (wr_nI hlt (by decide))
    rw [upI_at, if_neg (by omega), e46]
    apply Ok.step (wr_nI hlt (by decide))
    rw [upI_at, if_neg (by omega), upI_at, if_neg (by omega), e46]
    apply Ok.step (wr_nI hlt (by decide))
    rw [upI_at, if_neg (by omega), upI_at, if_neg (by omega), upI_at, if_neg (by omega), e46]
    apply Ok.step (wr_nI hlt (by decide))
    rw [upI_at, if_neg (by omega), upI_at, if_neg (by omega), upI_at, if_neg (by omega), upI_at, if_neg (by omega), e46]
    apply Ok.step (wr_nI hlt (by decide))
    have o5 : ∀ j, (upI (upI (upI (upI (upI S4 128 lt (nI (tkK c L q1.y.2 - 28))) 129 lt (bI (oddI q.ng) &&& 1)) 130 lt (bI q0.orr &&& 1)) 131 lt (nI (cb + cdt q0.ls))) 132 lt (nI (cb + cdt q0.ls + Lf.length))).1 95 j = S4.1 95 j := fun j => by
      rw [upI_at, if_neg (by omega), upI_at, if_neg (by omega), upI_at, if_neg (by omega), upI_at, if_neg (by omega), upI_at, if_neg (by omega)]
    rw [o5, o5, e46]
    apply Ok.step (wr_nI hlt (by decide))
    apply Ok.letsU
    have e46' : (upI (upI (upI (upI (upI (upI S4 128 lt (nI (tkK c L q1.y.2 - 28))) 129 lt (bI (oddI q.ng) &&& 1)) 130 lt (bI q0.orr &&& 1)) 131 lt (nI (cb + cdt q0.ls))) 132 lt (nI (cb + cdt q0.ls + Lf.length))) 133 lt (S4.1 95 53)).1 95 46 = nI lt := by
      rw [upI_at, if_neg (by omega), o5]; exact e46
    rw [e46', nI_1]
    generalize eS5 : upI (upI (upI (upI (upI (upI (upI S4 128 lt (nI (tkK c L q1.y.2 - 28))) 129 lt (bI (oddI q.ng) &&& 1)) 130 lt (bI q0.orr &&& 1)) 131 lt (nI (cb + cdt q0.ls))) 132 lt (nI (cb + cdt q0.ls + Lf.length))) 133 lt (S4.1 95 53)) 95 46 (nI (lt + 1)) = S5
    have o6 : ∀ a j, (a ≠ 95 ∨ j ≠ 46) → (a < 128 ∨ 133 < a) → S5.1 a j = S4.1 a j := fun a j h1 h2 => by
      rw [← eS5, upI_at, if_neg (by omega), upI_at, if_neg (by omega), upI_at, if_neg (by omega), upI_at, if_neg (by omega), upI_at, if_neg (by omega), upI_at, if_neg (by omega), upI_at, if_neg (by omega)]
    have xl : ∀ a, 128 ≤ a → a ≤ 133 → XLt ul uc lt (cb + cdt q0.ls) a lt = true := fun a h1 h2 => by
      simp [XLt, h1, h2, hlt0]
    have d5 : Df (XLt ul uc lt (cb + cdt q0.ls)) S S5 := by
      rw [← eS5]
      exact ((((((d4'.up (xl 128 (by decide) (by decide))).up (xl 129 (by decide) (by decide))).up (xl 130 (by decide) (by decide))).up (xl 131 (by decide) (by decide))).up (xl 132 (by decide) (by decide))).up (xl 133 (by decide) (by decide))).up rfl
    have s1 : q3.lf = some (tkK c L q1.y.2 - 28, Lf) := by
      rw [hs3.1, ecs]
    have s2 : q3.ls = q0.ls := by rw [hs3.2.1, ecs]; exact hls1
    have s3 : q3.ng = q.ng := by rw [hs3.2.2.1, ecs]; exact hs1.2.2.1
    have s4 : q3.orr = q0.orr := by rw [hs3.2.2.2, ecs]; exact hs1.2.2.2.trans hor
    refine Ok.ret ⟨q3, hr1'.tr hr3, hQ3, hy3.fr (fun j hj => o6 _ _ (by omega) (by omega)), d5, fun _ => ⟨k1, k2, k3, s2, s4, ?_, ?_, _, _, s1, ?_, ?_⟩⟩
    · rw [o6 _ _ (by omega) (by omega)]; exact k4
    · rw [← eS5, upI_at, if_pos ⟨rfl, rfl⟩]
    · rw [o6 _ _ (by omega) (by omega), k5, Nat.add_assoc]
    · refine ⟨?_, ?_, ?_, ?_, ?_, ?_, ?_, ?_⟩
      · rw [← eS5, upI_at, if_neg (by omega), upI_at, if_neg (by omega), upI_at, if_neg (by omega), upI_at, if_neg (by omega), upI_at, if_neg (by omega), upI_at, if_neg (by omega), upI_at, if_pos ⟨rfl, rfl⟩]
      · rw [← eS5, upI_at, if_neg (by omega), upI_at, if_neg (by omega), upI_at, if_neg (by omega), upI_at, if_neg (by omega), upI_at, if_neg (by omega), upI_at, if_pos ⟨rfl, rfl⟩, bI_and1, ← s3]
      · rw [← eS5, upI_at, if_neg (by omega), upI_at, if_neg (by omega), upI_at, if_neg (by omega), upI_at, if_neg (by omega), upI_at, if_pos ⟨rfl, rfl⟩, bI_and1, ← s4]
      · rw [← eS5, upI_at, if_neg (by omega), upI_at, if_neg (by omega), upI_at, if_neg (by omega), upI_at, if_pos ⟨rfl, rfl⟩]
      · rw [← eS5, upI_at, if_neg (by omega), upI_at, if_neg (by omega), upI_at, if_pos ⟨rfl, rfl⟩]
      · rw [← eS5, upI_at, if_neg (by omega), upI_at, if_pos ⟨rfl, rfl⟩, k5]
      · have h6 : CdR (cb + cdt q0.ls) Lf S2 := g6
        refine h6.fr (fun j h1 h2 => ?_)
        have hx1 : XEx uc (cb + cdt q0.ls + Lf.length) 134 j = false := by
          simp only [XEx, Bool.or_eq_false_iff, Bool.and_eq_false_iff, beq_eq_false_iff_ne, decide_eq_false_iff_not]
          omega
        have hx2 : XEx uc (cb + cdt q0.ls + Lf.length) 135 j = false := by
          simp only [XEx, Bool.or_eq_false_iff, Bool.and_eq_false_iff, beq_eq_false_iff_ne, decide_eq_false_iff_not]
          omega
        rw [o6 _ _ (by omega) (by omega), o6 _ _ (by omega) (by omega), d4.2 _ _ hx1, d4.2 _ _ hx2]
        exact ⟨o3 _ _ (by omega), o3 _ _ (by omega)⟩
      · exact CdR.fr k6 (fun j _ _ => ⟨o6 _ _ (by omega) (by omega), o6 _ _ (by omega) (by omega)⟩)
end RFZ
