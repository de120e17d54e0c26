/-! ===== what holds between two calls ===== -/
def noDD : Nat → Nat → Bool := fun _ _ => false
theorem DDs_none (seed : Int32) (m : Nat) : DDs seed (-1) m = noDD := by
  funext h p
  induction h with
  | zero => rfl
  | succ h ih => rw [DDs, ih]; simp [noDD, LTs]
/-- plans that are held -/
abbrev HL : Type := Nat → Option (PL × Nat)
def HWF (W : VW) (H : HL) : Prop := ∀ s, s < 3 → ∀ q, H s = some q → PWF W q.1 q.2
def HRef (H : HL) (S : ST) : Prop := ∀ s, s < 3 → (H s = none → S.1 155 s = -1) ∧ ∀ q, H s = some q → S.1 155 s = nI q.2 ∧ ∀ k, k < q.2 → S.1 156 (30 * s + k) = nI (q.1 0 k) ∧ S.1 157 (30 * s + k) = nI (q.1 1 k) ∧ S.1 158 (30 * s + k) = nI (q.1 2 k) ∧ S.1 159 (30 * s + k) = (if q.1 0 k = 2 then -1 else nI (q.1 3 k)) ∧ S.1 160 (30 * s + k) = nI (q.1 4 k)
def HCl (H : HL) (S : ST) : Prop := ∀ s, s < 3 → (H s = none → S.1 75 s = -1) ∧ ∀ q, H s = some q → S.1 75 s = nI q.2 ∧ ∀ k i, k < q.2 → i < 5 → S.1 74 (s * 150 + (k * 5 + i)) = Pc q.1 i k
def RI (W : VW) (V : VL) (sd : Nat) (P : PL) (N : Nat) (H : HL) (S : ST) : Prop := RRep W sd S ∧ RLw V W sd S ∧ PRef P N S ∧ HRef H S ∧ S.1 95 61 = 0 ∧ S.1 95 73 = -1
/-! the rule, as numbers -/
def wElder (W : VW) (h p o : Nat) : Bool := decide (wAge W o h < wAge W p h) || (decide (wAge W p h = wAge W o h) && decide (p < o))
/-- how many are ahead of one by age -/
def wAhead (W : VW) (h p : Nat) : Nat := cnt (fun o => wElder W h o p) (W 0 1)
def wRank (W : VW) (h i : Nat) : Nat := (srch (fun p => wAhead W h p == i) 0 (W 0 1)).getD 0
def wGain (W : VW) (F : FT2) (h p t : Nat) (X : Nat → Bool) : Nat := if F p t ≤ h then sumN (fun m => if (W 13 m = t ∧ h < W 14 m) ∧ X (W 12 m) = true ∧ ¬ F (W 12 m) t ≤ h + 1 then W 3 t else 0) (W 0 6) else 0
def wSpk (W : VW) (V : VL) (p h : Nat) : Bool := anyN (fun o => wMay W V nD p o h 0) (W 0 1)
/-- the people, the thing, the price of a choice: first the sayings, by things, then the acts -/
def wChP (W : VW) (V : VL) (h p j q : Nat) : Bool := if j < W 0 2 then wSpk W V p h && wHear W nD (wPl W p h) h q else wStand W nD (wPl W p h) h q
def wChT (W : VW) (j : Nat) : Nat := if j < W 0 2 then j else W 15 (j - W 0 2)
def wChC (W : VW) (j : Nat) : Nat := if j < W 0 2 then 1 else W 16 (j - W 0 2)
def wChG (W : VW) (V : VL) (F : FT2) (h p j : Nat) : Nat := wGain W F h p (wChT W j) (wChP W V h p j)
/-- the most of the first j choices, and the first that has it -/
def wBest (g : Nat → Nat) : Nat → Nat × Nat
  | 0 => (0, 0)
  | j + 1 => if (wBest g j).1 < g j then (g j, j) else wBest g j
abbrev RS : Type := FT2 × Nat × Nat
def ruOne (W : VW) (V : VL) (h p : Nat) (Z : RS) : RS :=
  if 0 < (wBest (wChG W V Z.1 h p) (W 0 2 + W 0 7)).1 then
    (fun q t => if wChP W V h p (wBest (wChG W V Z.1 h p) (W 0 2 + W 0 7)).2 q = true ∧ t = wChT W (wBest (wChG W V Z.1 h p) (W 0 2 + W 0 7)).2 ∧ h + 1 < Z.1 q t then h + 1 else Z.1 q t,
      Z.2.1 + wChC W (wBest (wChG W V Z.1 h p) (W 0 2 + W 0 7)).2, Z.2.2 + 1)
  else Z
def ruHour (W : VW) (V : VL) (h : Nat) (Z : RS) : Nat → RS
  | 0 => Z
  | i + 1 => ruOne W V h (wRank W h i) (ruHour W V h Z i)
def ruSt (W : VW) (V : VL) : Nat → RS
  | 0 => (fun p t => if wFirst W p t = true then 0 else 99, 0, 0)
  | h + 1 => ruHour W V h (ruSt W V h) (W 0 1)
def RuRes (W : VW) (V : VL) (S : ST) : Prop := KnC (W 0 1) 93 (ruSt W V 24).1 S ∧ S.1 92 1 = nI (ruSt W V 24).2.1 ∧ S.1 92 2 = nI (ruSt W V 24).2.2
/-! the cheapest way, as numbers -/
def wINF : Nat := 500000
def wHearN (W : VW) (p h : Nat) : Nat := bsN (wHear W nD (wPl W p h) h) (W 0 1)
def wStandN (W : VW) (p h : Nat) : Nat := bsN (wStand W nD (wPl W p h) h) (W 0 1)
def wLeast (W : VW) (V : VL) (p h : Nat) : Nat := (srch (fun o => wMay W V nD p o h 0) 0 (W 0 1)).getD 0
def chSay (W : VW) (V : VL) (f : Nat → Nat) (h x p : Nat) : Nat := if wSpk W V p h = true ∧ x ||| wHearN W p h ≠ x then min (wINF * 2048 + 2047) ((f (x ||| wHearN W p h) + 33) * 2048 + 20 * p + wLeast W V p h) else wINF * 2048 + 2047
def chBy (W : VW) (V : VL) (t : Nat) (f : Nat → Nat) (h x p : Nat) : Nat → Nat
  | 0 => chSay W V f h x p
  | a + 1 => if W 15 a = t ∧ x ||| wStandN W p h ≠ x then min (chBy W V t f h x p a) ((f (x ||| wStandN W p h) + W 16 a * 32 + 1) * 2048 + 1000 + 20 * p + a) else chBy W V t f h x p a
def chEnt (W : VW) (V : VL) (t : Nat) (f : Nat → Nat) (h x : Nat) : Nat → Nat
  | 0 => f x * 2048 + 2047
  | p + 1 => if x.testBit p = true then min (chEnt W V t f h x p) (chBy W V t f h x p (W 0 7)) else chEnt W V t f h x p
/-- the least way when d hours are left -/
def chOpt (W : VW) (V : VL) (q t : Nat) : Nat → Nat → Nat
  | 0, x => if x.testBit q = true then 0 else wINF
  | d + 1, x => if x.testBit q = true then 0 else chEnt W V t (chOpt W V q t d) (23 - d) x (W 0 1) / 2048
def chEn (W : VW) (V : VL) (q t h x : Nat) : Nat := chEnt W V t (chOpt W V q t (23 - h)) h x (W 0 1)
/-- what has been found of the cheapest ways -/
def ChI (W : VW) (V : VL) (en : Nat) (S : ST) : Prop := (en = 91 ∨ en = 161) ∧ (S.1 90 0 = -1 ∨ ∃ q t, q < W 0 1 ∧ t < W 0 2 ∧ en = 161 ∧ S.1 90 0 = nI q ∧ S.1 90 1 = nI t ∧ ∀ h x, h < 24 → x < 2 ^ W 0 1 → S.1 en (h * 1024 + x) = -1 ∨ S.1 en (h * 1024 + x) = nI (chEn W V q t h x))
def CI (W : VW) (V : VL) (tw en : Nat) (P : PL) (N : Nat) (H : HL) (S : ST) : Prop := CW W V tw S ∧ PCl P N S ∧ HCl H S ∧ (S.1 8 10 = 0 ∨ (S.1 8 10 = 1 ∧ CRes W V P N 24 (cSt W V P N noDD 24) 76 S)) ∧ (S.1 92 3 = 0 ∨ (S.1 92 3 = 1 ∧ RuRes W V S)) ∧ ChI W V en S
def IV (W : VW) (V : VL) (tw en sd : Nat) (P : PL) (N : Nat) (H : HL) (S : ST) : Prop := WF W ∧ PWF W P N ∧ HWF W H ∧ CI W V tw en P N H S ∧ RI W V sd P N H S
/-- all cells that calls change, but those of read -/
def XQA (a j : Nat) : Bool := decide (8 ≤ a) && (!(a == 8 && (j == 1 || j == 2)) && (!decide (9 ≤ a ∧ a ≤ 21) && (!(a == 95 && (j == 2 || j == 17)) && !decide (96 ≤ a ∧ a ≤ 105))))
def XCl (a _ : Nat) : Bool := decide ((8 ≤ a ∧ a < 95) ∨ 161 ≤ a)
def XRf (a _ : Nat) : Bool := decide (95 ≤ a ∧ a ≤ 160)
theorem HRef.df {H : HL} {S S' : ST} {X : Nat → Nat → Bool} (h : HRef H S) (d : Df X S S') (hx : ∀ a j, 155 ≤ a → a ≤ 160 → X a j = false) : HRef H S' := by
  intro s hs
  have e : ∀ a j, 155 ≤ a → a ≤ 160 → S'.1 a j = S.1 a j := fun a j h1 h2 => d.2 a j (hx a j h1 h2)
  refine ⟨fun hn => by rw [e _ _ (by decide) (by decide)]; exact (h s hs).1 hn, fun q hq => ?_⟩
  obtain ⟨h1, h2⟩ := (h s hs).2 q hq
  refine ⟨by rw [e _ _ (by decide) (by decide)]; exact h1, fun k hk => ?_⟩
  obtain ⟨a1, a2, a3, a4, a5⟩ := h2 k hk
  exact ⟨by rw [e _ _ (by decide) (by decide)]; exact a1, by rw [e _ _ (by decide) (by decide)]; exact a2, by rw [e _ _ (by decide) (by decide)]; exact a3, by rw [e _ _ (by decide) (by decide)]; exact a4, by rw [e _ _ (by decide) (by decide)]; exact a5⟩
theorem HCl.df {H : HL} {S S' : ST} {X : Nat → Nat → Bool} (h : HCl H S) (d : Df X S S') (hx : ∀ a j, 74 ≤ a → a ≤ 75 → X a j = false) : HCl H S' := by
  intro s hs
  have e : ∀ a j, 74 ≤ a → a ≤ 75 → S'.1 a j = S.1 a j := fun a j h1 h2 => d.2 a j (hx a j h1 h2)
  refine ⟨fun hn => by rw [e _ _ (by decide) (by decide)]; exact (h s hs).1 hn, fun q hq => ?_⟩
  obtain ⟨h1, h2⟩ := (h s hs).2 q hq
  exact ⟨by rw [e _ _ (by decide) (by decide)]; exact h1, fun k i hk hi => by rw [e _ _ (by decide) (by decide)]; exact h2 k i hk hi⟩
theorem CRes.df {W : VW} {V : VL} {P : PL} {N h c : Nat} {Z : CS} {S S' : ST} {X : Nat → Nat → Bool} (hR : CRes W V P N h Z c S) (d : Df X S S') (hx : ∀ a j, (c + 2 ≤ a ∧ a ≤ c + 4) ∨ (a = c ∧ (j = 4 ∨ j = 5)) → X a j = false) : CRes W V P N h Z c S' := by
  obtain ⟨h1, h2, h3, h4, h5⟩ := hR
  exact ⟨h1.df d (fun j => hx _ _ (by omega)), fun k hk hk2 => by rw [d.2 _ _ (hx _ _ (by omega))]; exact h2 k hk hk2, fun s o t a1 a2 a3 => by rw [d.2 _ _ (hx _ _ (by omega))]; exact h3 s o t a1 a2 a3, by rw [d.2 _ _ (hx _ _ (by omega))]; exact h4, by rw [d.2 _ _ (hx _ _ (by omega))]; exact h5⟩
theorem RuRes.df {W : VW} {V : VL} {S S' : ST} {X : Nat → Nat → Bool} (hR : RuRes W V S) (d : Df X S S') (hx : ∀ a j, a = 94 ∨ (a = 92 ∧ (j = 1 ∨ j = 2)) → X a j = false) : RuRes W V S' := ⟨hR.1.df d (fun j => hx _ _ (by omega)), by rw [d.2 _ _ (hx _ _ (by omega))]; exact hR.2.1, by rw [d.2 _ _ (hx _ _ (by omega))]; exact hR.2.2⟩
theorem ChI.df {W : VW} {V : VL} {en : Nat} {S S' : ST} {X : Nat → Nat → Bool} (hR : ChI W V en S) (d : Df X S S') (hx : ∀ a j, a = 161 ∨ (a = 90 ∧ (j = 0 ∨ j = 1)) → X a j = false) : ChI W V en S' := by
  refine ⟨hR.1, ?_⟩
  rcases hR.2 with h | ⟨q, t, h1, h2, h3, h4, h5, h6⟩
  · exact Or.inl (by rw [d.2 _ _ (hx _ _ (by omega))]; exact h)
  · refine Or.inr ⟨q, t, h1, h2, h3, by rw [d.2 _ _ (hx _ _ (by omega))]; exact h4, by rw [d.2 _ _ (hx _ _ (by omega))]; exact h5, fun h x hh hx2 => ?_⟩
    rw [d.2 _ _ (hx _ _ (by omega))]
    exact h6 h x hh hx2
/-- cells that nothing lasting is in -/
def XS (tw a j : Nat) : Bool := (decide (82 ≤ a ∧ a ≤ 87) || (a == 89 || a == 81)) || (a == tw + 19 || a == tw + 20)
theorem CI.dfS {W : VW} {V : VL} {tw en : Nat} {P : PL} {N : Nat} {H : HL} {S S' : ST} (hC : CI W V tw en P N H S) (d : Df (XS tw) S S') : CI W V tw en P N H S' := by
  obtain ⟨h1, h2, h3, h4, h5, h6⟩ := hC
  have hw := h1.1
  have nx : ∀ a j, ((a < 81 ∨ 89 < a ∨ a = 88) ∧ a ≠ tw + 19 ∧ a ≠ tw + 20) → XS tw a j = false := fun a j h => by
    simp only [XS, Bool.or_eq_false_iff, decide_eq_false_iff_not, beq_eq_false_iff_ne]
    omega
  refine ⟨h1.df d (fun a j h => nx a j (by omega)), h2.df d (fun a j h => nx a j (by omega)), h3.df d (fun a j _ _ => nx a j (by omega)), ?_, ?_, h6.df d (fun a j h => nx a j (by omega))⟩
  · rw [d.2 8 10 (nx _ _ (by omega))]
    rcases h4 with z | z
    · exact Or.inl z
    · exact Or.inr ⟨z.1, z.2.df d (fun a j h => nx a j (by omega))⟩
  · rw [d.2 92 3 (nx _ _ (by omega))]
    rcases h5 with z | z
    · exact Or.inl z
    · exact Or.inr ⟨z.1, z.2.df d (fun a j h => nx a j (by omega))⟩
theorem CI.dfR {W : VW} {V : VL} {tw en : Nat} {P : PL} {N : Nat} {H : HL} {S S' : ST} (hC : CI W V tw en P N H S) (d : Df XRf S S') : CI W V tw en P N H S' := by
  obtain ⟨h1, h2, h3, h4, h5, h6⟩ := hC
  have hw := h1.1
  have nx : ∀ a j, (a < 95 ∨ 160 < a) → XRf a j = false := fun a j h => by
    simp only [XRf, decide_eq_false_iff_not]
    omega
  refine ⟨h1.df d (fun a j h => nx a j (by omega)), h2.df d (fun a j h => nx a j (by omega)), h3.df d (fun a j _ _ => nx a j (by omega)), ?_, ?_, h6.df d (fun a j h => nx a j (by omega))⟩
  · rw [d.2 8 10 (nx _ _ (by omega))]
    rcases h4 with z | z
    · exact Or.inl z
    · exact Or.inr ⟨z.1, z.2.df d (fun a j h => nx a j (by omega))⟩
  · rw [d.2 92 3 (nx _ _ (by omega))]
    rcases h5 with z | z
    · exact Or.inl z
    · exact Or.inr ⟨z.1, z.2.df d (fun a j h => nx a j (by omega))⟩
theorem RI.dfC {W : VW} {V : VL} {sd : Nat} {P : PL} {N : Nat} {H : HL} {S S' : ST} (hR : RI W V sd P N H S) (d : Df XCl S S') : RI W V sd P N H S' := by
  obtain ⟨h1, h2, h3, h4, h5, h6⟩ := hR
  have nx : ∀ a j, (95 ≤ a ∧ a ≤ 160) → XCl a j = false := fun a j h => by
    simp only [XCl, decide_eq_false_iff_not]
    omega
  exact ⟨h1.df d (fun a j h => nx a j (by omega)), h2.df d (fun a j h => nx a j (by simp only [lawC, decide_eq_true_eq] at h; omega)), h3.df d (fun a j h => nx a j (by omega)), h4.df d (fun a j _ _ => nx a j (by omega)), by rw [d.2 _ _ (nx _ _ (by omega))]; exact h5, by rw [d.2 _ _ (nx _ _ (by omega))]; exact h6⟩
/-- the reference's cells that nothing lasting is in -/
def XSR (a j : Nat) : Bool := decide ((137 ≤ a ∧ a ≤ 138) ∨ (144 ≤ a ∧ a ≤ 154)) || (a == 95 && decide (60 ≤ j ∧ j ≤ 61 ∨ 72 ≤ j))
theorem RI.dfS {W : VW} {V : VL} {sd : Nat} {P : PL} {N : Nat} {H : HL} {S S' : ST} (hR : RI W V sd P N H S) (d : Df XSR S S') (e1 : S'.1 95 61 = 0) (e2 : S'.1 95 73 = -1) : RI W V sd P N H S' := by
  obtain ⟨h1, h2, h3, h4, h5, h6⟩ := hR
  have nx : ∀ a j, (a ≠ 137 ∧ a ≠ 138 ∧ (a < 144 ∨ 154 < a) ∧ (a ≠ 95 ∨ (j < 60 ∨ (61 < j ∧ j < 72)))) → XSR a j = false := fun a j h => by
    simp only [XSR, decide_eq_false_iff_not, Bool.or_eq_false_iff, Bool.and_eq_false_iff, beq_eq_false_iff_ne]
    omega
  exact ⟨h1.df d (fun a j h => nx a j (by omega)), h2.df d (fun a j h => nx a j (by simp only [lawC, decide_eq_true_eq] at h; omega)), h3.df d (fun a j h => nx a j (by omega)), h4.df d (fun a j _ _ => nx a j (by omega)), e1, e2⟩
theorem XM_XSR {S S' : ST} (h : Df XM S S') : Df XSR S S' := h.mono (fun a j hx => by
  simp only [XSR, XM, decide_eq_false_iff_not, Bool.or_eq_false_iff, Bool.and_eq_false_iff, beq_eq_false_iff_ne] at hx ⊢
  omega)
theorem XG_XSR {S S' : ST} (h : Df XG S S') : Df XSR S S' := h.mono (fun a j hx => by
  simp only [XSR, XG, XD, XM, decide_eq_false_iff_not, Bool.or_eq_false_iff, Bool.and_eq_false_iff, beq_eq_false_iff_ne] at hx ⊢
  omega)
theorem XSR_XRf {S S' : ST} (h : Df XSR S S') : Df XRf S S' := h.mono (fun a j hx => by
  simp only [XSR, XRf, decide_eq_false_iff_not, Bool.or_eq_false_iff, Bool.and_eq_false_iff, beq_eq_false_iff_ne] at hx ⊢
  omega)
theorem XSR_XQA {S S' : ST} (h : Df XSR S S') : Df XQA S S' := h.mono (fun a j hx => by
  simp only [XSR, XQA, decide_eq_false_iff_not, Bool.or_eq_false_iff, Bool.and_eq_false_iff, beq_eq_false_iff_ne, Bool.not_eq_false', decide_eq_true_eq, Bool.and_eq_true, Bool.or_eq_true, beq_iff_eq] at hx ⊢
  omega)
theorem XS_XCl {tw : Nat} {S S' : ST} (hw : tw = 22 ∨ tw = 47) (h : Df (XS tw) S S') : Df XCl S S' := h.mono (fun a j hx => by
  simp only [XS, XCl, decide_eq_false_iff_not, Bool.or_eq_false_iff, Bool.and_eq_false_iff, beq_eq_false_iff_ne] at hx ⊢
  omega)
theorem XS_XQA {tw : Nat} {S S' : ST} (hw : tw = 22 ∨ tw = 47) (h : Df (XS tw) S S') : Df XQA S S' := h.mono (fun a j hx => by
  simp only [XS, XQA, decide_eq_false_iff_not, Bool.or_eq_false_iff, Bool.and_eq_false_iff, beq_eq_false_iff_ne, Bool.not_eq_false', decide_eq_true_eq, Bool.and_eq_true, Bool.or_eq_true, beq_iff_eq] at hx ⊢
  omega)
/-! arguments -/
def vB (x : Int32) (m : Nat) : Bool := decide (0 ≤ x) && decide (x < nI m)
theorem vB_t {x : Int32} {m : Nat} (hm : m < 2 ^ 31) (h : vB x m = true) : ∃ p, p < m ∧ x = nI p := by
  simp only [vB, Bool.and_eq_true, decide_eq_true_eq] at h
  exact vi_nat hm h
theorem vB_nI {p m : Nat} (hm : m < 2 ^ 31) (hp : p < m) : vB (nI p) m = true := by
  simp only [vB, Bool.and_eq_true, decide_eq_true_eq]
  exact nat_vi hm hp
theorem r_inB {n : Nat} {S : ST} {x : Int32} {m : Nat} (hm : m < 2 ^ 30) : E_X12_in n S x 0 (nI m - 1) = some (bI (vB x m)) := by
  cases c : vB x m
  · have h : ¬ vi x m := fun z => by
      simp only [vB, Bool.and_eq_false_iff, decide_eq_false_iff_not] at c
      rcases c with c | c
      · exact c z.1
      · exact c z.2
    exact (r_chk hm).2 h
  · simp only [vB, Bool.and_eq_true, decide_eq_true_eq] at c
    exact (r_chk hm).1 c
theorem r_inK {n : Nat} {S : ST} {x : Int32} {m : Nat} (hm : m < 2 ^ 29) : E_X12_in n S x 0 (nI m) = some (bI (vB x (m + 1))) := by
  have h := r_inB (n := n) (S := S) (x := x) (m := m + 1) (by omega)
  rw [nI_pred] at h
  exact h
section CHK
variable {W : VW} {V : VL} {sd tw n : Nat} {S : ST}
theorem r_vP (hR : RRep W sd S) (hW : WF W) {x : Int32} : E_X12_isPerson n S x = some (bI (vB x (W 0 1))) := by
  have hm : W 0 1 ≤ 10 := hW.mx (k := 1) (by decide)
  unfold E_X12_isPerson
  rw [r_h1 hR, Option.bind_some, r_inB (by omega), Option.bind_some, gd_b]
theorem r_vT (hR : RRep W sd S) (hW : WF W) {x : Int32} : E_X12_isThing n S x = some (bI (vB x (W 0 2))) := by
  have hm : W 0 2 ≤ 6 := hW.mx (k := 2) (by decide)
  unfold E_X12_isThing
  rw [r_h2 hR, Option.bind_some, r_inB (by omega), Option.bind_some, gd_b]
theorem r_vL (hR : RRep W sd S) (hW : WF W) {x : Int32} : E_X12_isPlace n S x = some (bI (vB x (W 0 0))) := by
  have hm : W 0 0 ≤ 6 := hW.mx (k := 0) (by decide)
  unfold E_X12_isPlace
  rw [r_h0 hR, Option.bind_some, r_inB (by omega), Option.bind_some, gd_b]
theorem r_vA (hR : RRep W sd S) (hW : WF W) {x : Int32} : E_X12_isAct n S x = some (bI (vB x (W 0 7))) := by
  have hm : W 0 7 ≤ 6 := hW.mx (k := 7) (by decide)
  unfold E_X12_isAct
  rw [r_h7 hR, Option.bind_some, r_inB (by omega), Option.bind_some, gd_b]
theorem r_vH {x : Int32} : E_X12_isHour n S x = some (bI (vB x 24)) := by
  unfold E_X12_isHour
  rw [show (23 : Int32) = nI 23 from rfl, r_inK (by decide), Option.bind_some, gd_b]
theorem r_vE {x : Int32} : E_X12_isEnd n S x = some (bI (vB x 25)) := by
  unfold E_X12_isEnd
  rw [show (24 : Int32) = nI 24 from rfl, r_inK (by decide), Option.bind_some, gd_b]
theorem c_vOne (hC : CW W V tw S) (hW : WF W) {x : Int32} {k : Nat} (hk : k < 11) : E_X11_isOne n S tw (nI k) x = some (bI (vB x (W 0 k))) := by
  have hm : W 0 k ≤ 20 := by
    have := hW.mx hk
    have h2 : MX k ≤ 20 := (by decide : ∀ k, k < 11 → MX k ≤ 20) k hk
    omega
  unfold E_X11_isOne vB
  by_cases c1 : x < 0
  · rw [if_pos c1, decide_eq_false (Int32.not_le.mpr c1)]; rfl
  · rw [if_neg c1, decide_eq_true (Int32.not_lt.mp c1)]
    apply Ok.e
    apply Ok.step (x := nI (W 0 k)) (by simp (disch := omega) only [↓reduceIte, Option.bind_some, jn, lets, Sum.elim_inl, Sum.elim_inr, if_true, if_false, rd_nI, wr_nI, rd_z, rd_o, wr_z, wr_o, nI_1, nI_add, pk_mul, nI_leI, nI_ltI, nI_eq, z_le, le_z, z_lt, lt_z, eq_z, eq_o, le_o, o_le, lt_o, o_lt, eq_m1, eq_m2, m1_eq, m2_eq, m1_lt, m1_le, o_z, z_o, m1_z, m1_o, m2_z, m2_o, m2_m1, z_lz, z_lo, o_lz, o_ez, z_ez, z_eo, m2_lt, m2_le, leF, leT, ltF, ltT, eqF, eqT, bI_z, bI_o, sh1, sh0, not_true_eq_false, not_false_eq_true, ne_eq, Bool.true_eq_false, Bool.false_eq_true, true_and, and_true, false_and, and_false, l_2, l_3, l_4, l_5, l_6, l_7, l_8, l_9, l_10, l_11, l_12, l_13, l_14, l_15, l_16, l_17, l_18, l_19, l_20, l_21, l_22, l_23, l_24, l_25, l_26, l_27, l_28, l_29, l_30, l_32, l_33, l_34, l_35, l_36, l_37, l_38, l_39, l_50, l_60, l_99, l_100, l_150, l_160, l_240, l_250, l_300, l_400, l_402, l_403, l_420, l_500, l_600, l_840, l_1000, l_1024, l_2000, l_2047, l_2048, l_10000, l_25600, l_500000, g_n hC])
    by_cases c2 : nI (W 0 k) ≤ x
    · rw [if_pos c2, decide_eq_false (Int32.not_lt.mpr c2)]
      exact Ok.ret rfl
    · rw [if_neg c2, decide_eq_true (Int32.not_le.mp c2)]
      exact Ok.ret rfl
theorem c_v0 (hC : CW W V tw S) (hW : WF W) {x : Int32} : E_X11_isOne n S tw (0 : Int32) x = some (bI (vB x (W 0 0))) := c_vOne (k := 0) hC hW (by decide)
theorem c_v1 (hC : CW W V tw S) (hW : WF W) {x : Int32} : E_X11_isOne n S tw (1 : Int32) x = some (bI (vB x (W 0 1))) := c_vOne (k := 1) hC hW (by decide)
theorem c_vH {x : Int32} : E_X11_isHour n S x = some (bI (vB x 24)) := by
  unfold E_X11_isHour vB
  by_cases c1 : x < 0
  · rw [if_pos c1, decide_eq_false (Int32.not_le.mpr c1)]; rfl
  · rw [if_neg c1, decide_eq_true (Int32.not_lt.mp c1)]
    by_cases c2 : (24 : Int32) ≤ x
    · have c3 : ¬ x < nI 24 := Int32.not_lt.mpr c2
      rw [if_pos c2, decide_eq_false c3]; rfl
    · have c3 : x < nI 24 := Int32.not_le.mp c2
      rw [if_neg c2, decide_eq_true c3]; rfl
theorem c_vE {x : Int32} : E_X11_isHourOrEnd n S x = some (bI (vB x 25)) := by
  unfold E_X11_isHourOrEnd vB
  by_cases c1 : x < 0
  · rw [if_pos c1, decide_eq_false (Int32.not_le.mpr c1)]; rfl
  · rw [if_neg c1, decide_eq_true (Int32.not_lt.mp c1)]
    obtain ⟨j, hj, rfl⟩ := nI_of c1
    by_cases c2 : 24 < j
    · rw [if_pos (show (24 : Int32) < nI j from nI_lt (a := 24) c2 (by omega)), decide_eq_false (nI_nlt (by omega) (by omega))]; rfl
    · rw [if_neg (show ¬ (24 : Int32) < nI j from nI_nlt (a := 24) (by omega) (by omega)), decide_eq_true (nI_lt (by omega) (by decide))]; rfl
theorem c_two (hC : CW W V tw S) (hW : WF W) {x y : Int32} : E_X11_areTwo n S tw x y = some (bI (vB x (W 0 1) && (vB y (W 0 1) && decide (x ≠ y)))) := by
  unfold E_X11_areTwo
  apply Ok.e
  cases c1 : vB x (W 0 1)
  · (repeat (first | ((with_reducible apply Ok.step); · ((try simp (disch := omega) only [↓reduceIte, Option.bind_some, Sum.elim_inl, Sum.elim_inr, if_true, if_false, rd_nI, wr_nI, rd_z, rd_o, wr_z, wr_o, nI_1, nI_add, pk_mul, nI_leI, nI_ltI, nI_eq, z_le, le_z, z_lt, lt_z, eq_z, eq_o, le_o, o_le, lt_o, o_lt, eq_m1, eq_m2, m1_eq, m2_eq, m1_lt, m1_le, o_z, z_o, m1_z, m1_o, m2_z, m2_o, m2_m1, z_lz, z_lo, o_lz, o_ez, z_ez, z_eo, m2_lt, m2_le, leF, leT, ltF, ltT, eqF, eqT, bI_z, bI_o, sh1, sh0, not_true_eq_false, not_false_eq_true, ne_eq, Bool.true_eq_false, Bool.false_eq_true, true_and, and_true, false_and, and_false, l_2, l_3, l_4, l_5, l_6, l_7, l_8, l_9, l_10, l_11, l_12, l_13, l_14, l_15, l_16, l_17, l_18, l_19, l_20, l_21, l_22, l_23, l_24, l_25, l_26, l_27, l_28, l_29, l_30, l_32, l_33, l_34, l_35, l_36, l_37, l_38, l_39, l_50, l_60, l_99, l_100, l_150, l_160, l_240, l_250, l_300, l_400, l_402, l_403, l_420, l_500, l_600, l_840, l_1000, l_1024, l_2000, l_2047, l_2048, l_10000, l_25600, l_500000, c_v1 hC hW, c1]); with_reducible exact rfl)) | ((with_reducible apply Ok.ifT); · (first | (simp (disch := omega) only [↓reduceIte, Option.bind_some, Sum.elim_inl, Sum.elim_inr, if_true, if_false, rd_nI, wr_nI, rd_z, rd_o, wr_z, wr_o, nI_1, nI_add, pk_mul, nI_leI, nI_ltI, nI_eq, z_le, le_z, z_lt, lt_z, eq_z, eq_o, le_o, o_le, lt_o, o_lt, eq_m1, eq_m2, m1_eq, m2_eq, m1_lt, m1_le, o_z, z_o, m1_z, m1_o, m2_z, m2_o, m2_m1, z_lz, z_lo, o_lz, o_ez, z_ez, z_eo, m2_lt, m2_le, leF, leT, ltF, ltT, eqF, eqT, bI_z, bI_o, sh1, sh0, not_true_eq_false, not_false_eq_true, ne_eq, Bool.true_eq_false, Bool.false_eq_true, true_and, and_true, false_and, and_false, l_2, l_3, l_4, l_5, l_6, l_7, l_8, l_9, l_10, l_11, l_12, l_13, l_14, l_15, l_16, l_17, l_18, l_19, l_20, l_21, l_22, l_23, l_24, l_25, l_26, l_27, l_28, l_29, l_30, l_32, l_33, l_34, l_35, l_36, l_37, l_38, l_39, l_50, l_60, l_99, l_100, l_150, l_160, l_240, l_250, l_300, l_400, l_402, l_403, l_420, l_500, l_600, l_840, l_1000, l_1024, l_2000, l_2047, l_2048, l_10000, l_25600, l_500000, c_v1 hC hW, c1]; done) | omega)) | ((with_reducible apply Ok.ifF); · (first | (simp (disch := omega) only [↓reduceIte, Option.bind_some, Sum.elim_inl, Sum.elim_inr, if_true, if_false, rd_nI, wr_nI, rd_z, rd_o, wr_z, wr_o, nI_1, nI_add, pk_mul, nI_leI, nI_ltI, nI_eq, z_le, le_z, z_lt, lt_z, eq_z, eq_o, le_o, o_le, lt_o, o_lt, eq_m1, eq_m2, m1_eq, m2_eq, m1_lt, m1_le, o_z, z_o, m1_z, m1_o, m2_z, m2_o, m2_m1, z_lz, z_lo, o_lz, o_ez, z_ez, z_eo, m2_lt, m2_le, leF, leT, ltF, ltT, eqF, eqT, bI_z, bI_o, sh1, sh0, not_true_eq_false, not_false_eq_true, ne_eq, Bool.true_eq_false, Bool.false_eq_true, true_and, and_true, false_and, and_false, l_2, l_3, l_4, l_5, l_6, l_7, l_8, l_9, l_10, l_11, l_12, l_13, l_14, l_15, l_16, l_17, l_18, l_19, l_20, l_21, l_22, l_23, l_24, l_25, l_26, l_27, l_28, l_29, l_30, l_32, l_33, l_34, l_35, l_36, l_37, l_38, l_39, l_50, l_60, l_99, l_100, l_150, l_160, l_240, l_250, l_300, l_400, l_402, l_403, l_420, l_500, l_600, l_840, l_1000, l_1024, l_2000, l_2047, l_2048, l_10000, l_25600, l_500000, c_v1 hC hW, c1]; done) | omega)) | with_reducible apply Ok.jnU | with_reducible apply Ok.letsU | with_reducible apply Ok.elL | with_reducible apply Ok.elR | ((with_reducible apply Ok.gdT); · exact bI_nar _)))
    exact Ok.ret rfl
  cases c2 : vB y (W 0 1)
  · (repeat (first | ((with_reducible apply Ok.step); · ((try simp (disch := omega) only [↓reduceIte, Option.bind_some, Sum.elim_inl, Sum.elim_inr, if_true, if_false, rd_nI, wr_nI, rd_z, rd_o, wr_z, wr_o, nI_1, nI_add, pk_mul, nI_leI, nI_ltI, nI_eq, z_le, le_z, z_lt, lt_z, eq_z, eq_o, le_o, o_le, lt_o, o_lt, eq_m1, eq_m2, m1_eq, m2_eq, m1_lt, m1_le, o_z, z_o, m1_z, m1_o, m2_z, m2_o, m2_m1, z_lz, z_lo, o_lz, o_ez, z_ez, z_eo, m2_lt, m2_le, leF, leT, ltF, ltT, eqF, eqT, bI_z, bI_o, sh1, sh0, not_true_eq_false, not_false_eq_true, ne_eq, Bool.true_eq_false, Bool.false_eq_true, true_and, and_true, false_and, and_false, l_2, l_3, l_4, l_5, l_6, l_7, l_8, l_9, l_10, l_11, l_12, l_13, l_14, l_15, l_16, l_17, l_18, l_19, l_20, l_21, l_22, l_23, l_24, l_25, l_26, l_27, l_28, l_29, l_30, l_32, l_33, l_34, l_35, l_36, l_37, l_38, l_39, l_50, l_60, l_99, l_100, l_150, l_160, l_240, l_250, l_300, l_400, l_402, l_403, l_420, l_500, l_600, l_840, l_1000, l_1024, l_2000, l_2047, l_2048, l_10000, l_25600, l_500000, c_v1 hC hW, c1, c2]); with_reducible exact rfl)) | ((with_reducible apply Ok.ifT); · (first | (simp (disch := omega) only [↓reduceIte, Option.bind_some, Sum.elim_inl, Sum.elim_inr, if_true, if_false, rd_nI, wr_nI, rd_z, rd_o, wr_z, wr_o, nI_1, nI_add, pk_mul, nI_leI, nI_ltI, nI_eq, z_le, le_z, z_lt, lt_z, eq_z, eq_o, le_o, o_le, lt_o, o_lt, eq_m1, eq_m2, m1_eq, m2_eq, m1_lt, m1_le, o_z, z_o, m1_z, m1_o, m2_z, m2_o, m2_m1, z_lz, z_lo, o_lz, o_ez, z_ez, z_eo, m2_lt, m2_le, leF, leT, ltF, ltT, eqF, eqT, bI_z, bI_o, sh1, sh0, not_true_eq_false, not_false_eq_true, ne_eq, Bool.true_eq_false, Bool.false_eq_true, true_and, and_true, false_and, and_false, l_2, l_3, l_4, l_5, l_6, l_7, l_8, l_9, l_10, l_11, l_12, l_13, l_14, l_15, l_16, l_17, l_18, l_19, l_20, l_21, l_22, l_23, l_24, l_25, l_26, l_27, l_28, l_29, l_30, l_32, l_33, l_34, l_35, l_36, l_37, l_38, l_39, l_50, l_60, l_99, l_100, l_150, l_160, l_240, l_250, l_300, l_400, l_402, l_403, l_420, l_500, l_600, l_840, l_1000, l_1024, l_2000, l_2047, l_2048, l_10000, l_25600, l_500000, c_v1 hC hW, c1, c2]; done) | omega)) | ((with_reducible apply Ok.ifF); · (first | (simp (disch := omega) only [↓reduceIte, Option.bind_some, Sum.elim_inl, Sum.elim_inr, if_true, if_false, rd_nI, wr_nI, rd_z, rd_o, wr_z, wr_o, nI_1, nI_add, pk_mul, nI_leI, nI_ltI, nI_eq, z_le, le_z, z_lt, lt_z, eq_z, eq_o, le_o, o_le, lt_o, o_lt, eq_m1, eq_m2, m1_eq, m2_eq, m1_lt, m1_le, o_z, z_o, m1_z, m1_o, m2_z, m2_o, m2_m1, z_lz, z_lo, o_lz, o_ez, z_ez, z_eo, m2_lt, m2_le, leF, leT, ltF, ltT, eqF, eqT, bI_z, bI_o, sh1, sh0, not_true_eq_false, not_false_eq_true, ne_eq, Bool.true_eq_false, Bool.false_eq_true, true_and, and_true, false_and, and_false, l_2, l_3, l_4, l_5, l_6, l_7, l_8, l_9, l_10, l_11, l_12, l_13, l_14, l_15, l_16, l_17, l_18, l_19, l_20, l_21, l_22, l_23, l_24, l_25, l_26, l_27, l_28, l_29, l_30, l_32, l_33, l_34, l_35, l_36, l_37, l_38, l_39, l_50, l_60, l_99, l_100, l_150, l_160, l_240, l_250, l_300, l_400, l_402, l_403, l_420, l_500, l_600, l_840, l_1000, l_1024, l_2000, l_2047, l_2048, l_10000, l_25600, l_500000, c_v1 hC hW, c1, c2]; done) | omega)) | with_reducible apply Ok.jnU | with_reducible apply Ok.letsU | with_reducible apply Ok.elL | with_reducible apply Ok.elR | ((with_reducible apply Ok.gdT); · exact bI_nar _)))
    exact Ok.ret rfl
  apply Ok.step (c_v1 hC hW)
  rw [c1]
  refine Ok.ifF (by decide) ?_
  apply Ok.step (c_v1 hC hW)
  rw [c2]
  refine Ok.ifF (by decide) ?_
  by_cases c3 : x = y
  · exact Ok.ifT c3 (Ok.ret (by simp [c3, bI]))
  · exact Ok.ifF c3 (Ok.ret (by simp [c3, bI]))
/-- sets of people that are arguments -/
def vS (x : Int32) (m : Nat) : Bool := vB x (2 ^ m)
theorem p2_lt {m : Nat} (hm : m ≤ 10) : 2 ^ m ≤ 1024 := (Nat.pow_le_pow_right (by decide) hm : 2 ^ m ≤ 2 ^ 10)
theorem vS_t {x : Int32} {m : Nat} (hm : m ≤ 10) (h : vS x m = true) : ∃ X : Nat, X < 2 ^ m ∧ x = nI X ∧ x = bs (fun i => X.testBit i) m := by
  have h1 := p2_lt hm
  obtain ⟨X, h2, h3⟩ := vB_t (by omega) h
  refine ⟨X, h2, h3, ?_⟩
  rw [h3]
  apply bs_of (by omega)
  intro i _
  rw [bt_nI _ _ (by omega)]
  by_cases c : i < m
  · simp [c]
  · rw [Nat.testBit_lt_two_pow (Nat.lt_of_lt_of_le h2 (Nat.pow_le_pow_right (by decide) (by omega)))]
    simp [c]
theorem sh_pow {m : Nat} (hm : m ≤ 10) : (1 : Int32) <<< (nI m &&& 31) - 1 = nI (2 ^ m) - 1 := by rw [bit_nI (by omega)]
theorem r_vS (hR : RRep W sd S) (hW : WF W) {x : Int32} : E_X12_isSet n S x = some (bI (vS x (W 0 1))) := by
  have hm : W 0 1 ≤ 10 := hW.mx (k := 1) (by decide)
  have h1 := p2_lt hm
  unfold E_X12_isSet
  rw [r_h1 hR, Option.bind_some, sh_pow hm, r_inB (by omega), Option.bind_some, gd_b]
  rfl
theorem ush_set {x : Int32} {m : Nat} (hm : m ≤ 10) : (ush x (nI m) = 0) ↔ vS x m = true := by
  have h1 := p2_lt hm
  constructor
  · intro h
    have hb : ∀ i, m ≤ i → i < 32 → bt x i = false := by
      intro i h2 h3
      have e := b_ushr m (by omega) x (i - m)
      have e2 : bt (ush x (nI m)) (i - m) = bt x (m + (i - m)) := e
      rw [h, b_0, show m + (i - m) = i by omega] at e2
      exact e2.symm
    have e3 : x = bs (bt x) m := bs_of (by omega) (fun i hi => by
      by_cases c : i < m
      · simp [c]
      · rw [hb i (by omega) hi]; simp [c])
    rw [e3, bs_nI _ (by omega)]
    exact vB_nI (by omega) (bsN_lt _ _)
  · intro h
    obtain ⟨X, h2, h3, h4⟩ := vS_t hm h
    apply b_ext
    intro i hi
    have e := b_ushr m (by omega) x i
    have e2 : bt (ush x (nI m)) i = bt x (m + i) := e
    rw [e2, b_0, h4, bt_bs _ _ (by omega), decide_eq_false (by omega)]; rfl
theorem c_vS (hC : CW W V tw S) (hW : WF W) {x : Int32} : E_X11_isSet n S tw x = some (bI (vS x (W 0 1))) := by
  have hm : W 0 1 ≤ 10 := hW.mx (k := 1) (by decide)
  unfold E_X11_isSet
  apply Ok.e
  apply Ok.step (x := nI (W 0 1)) (by simp (disch := omega) only [↓reduceIte, Option.bind_some, jn, lets, Sum.elim_inl, Sum.elim_inr, if_true, if_false, rd_nI, wr_nI, rd_z, rd_o, wr_z, wr_o, nI_1, nI_add, pk_mul, nI_leI, nI_ltI, nI_eq, z_le, le_z, z_lt, lt_z, eq_z, eq_o, le_o, o_le, lt_o, o_lt, eq_m1, eq_m2, m1_eq, m2_eq, m1_lt, m1_le, o_z, z_o, m1_z, m1_o, m2_z, m2_o, m2_m1, z_lz, z_lo, o_lz, o_ez, z_ez, z_eo, m2_lt, m2_le, leF, leT, ltF, ltT, eqF, eqT, bI_z, bI_o, sh1, sh0, not_true_eq_false, not_false_eq_true, ne_eq, Bool.true_eq_false, Bool.false_eq_true, true_and, and_true, false_and, and_false, l_2, l_3, l_4, l_5, l_6, l_7, l_8, l_9, l_10, l_11, l_12, l_13, l_14, l_15, l_16, l_17, l_18, l_19, l_20, l_21, l_22, l_23, l_24, l_25, l_26, l_27, l_28, l_29, l_30, l_32, l_33, l_34, l_35, l_36, l_37, l_38, l_39, l_50, l_60, l_99, l_100, l_150, l_160, l_240, l_250, l_300, l_400, l_402, l_403, l_420, l_500, l_600, l_840, l_1000, l_1024, l_2000, l_2047, l_2048, l_10000, l_25600, l_500000, g_n hC])
  cases c : vS x (W 0 1)
  · refine Ok.ifF (fun z => ?_) (Ok.ret rfl)
    rw [ush_set hm, c] at z
    cases z
  · exact Ok.ifT ((ush_set hm).mpr c) (Ok.ret rfl)
end CHK
