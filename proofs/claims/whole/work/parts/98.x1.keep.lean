/-! ===== a text is read: what stays ===== -/
theorem CI.two {W : VW} {V : VL} {tw en : Nat} {P : PL} {N : Nat} {H : HL} {S : ST} {g : Nat → Nat → Int64} (h : CI W V tw en P N H (S.1, g)) : CI W V tw en P N H S := h
theorem CI.dfY {W : VW} {V : VL} {tw en : Nat} {P : PL} {N : Nat} {H : HL} {S S' : ST} (hC : CI W V tw en P N H S) (e : ∀ a j, ((tw ≤ a ∧ a ≤ tw + 24) ∨ (72 ≤ a ∧ a < 95) ∨ 160 < a ∨ (a = 8 ∧ j = 10)) → S'.1 a j = S.1 a j) : CI W V tw en P N H S' := by
  have key : ∀ S' : ST, Df (fun a j => !decide ((tw ≤ a ∧ a ≤ tw + 24) ∨ (72 ≤ a ∧ a < 95) ∨ 160 < a ∨ (a = 8 ∧ j = 10))) S S' → CI W V tw en P N H S' := fun S' d => by
    obtain ⟨h1, h2, h3, h4, h5, h6⟩ := hC
    have hw := h1.1
    have nx : ∀ a j, ((tw ≤ a ∧ a ≤ tw + 24) ∨ (72 ≤ a ∧ a < 95) ∨ 160 < a ∨ (a = 8 ∧ j = 10)) → (!decide ((tw ≤ a ∧ a ≤ tw + 24) ∨ (72 ≤ a ∧ a < 95) ∨ 160 < a ∨ (a = 8 ∧ j = 10))) = false := fun a j h => by
      rw [decide_eq_true h]; rfl
    refine ⟨h1.df d (fun a j h => nx a j (by omega)), h2.df d (fun a j h => nx a j (by omega)), h3.df d (fun a j _ _ => nx a j (by omega)), ?_, ?_, h6.df d (fun a j h => nx a j (by omega))⟩
    · rw [d.2 8 10 (nx _ _ (by omega))]
      rcases h4 with z | z
      · exact Or.inl z
      · exact Or.inr ⟨z.1, z.2.df d (fun a j h => nx a j (by omega))⟩
    · rw [d.2 92 3 (nx _ _ (by omega))]
      rcases h5 with z | z
      · exact Or.inl z
      · exact Or.inr ⟨z.1, z.2.df d (fun a j h => nx a j (by omega))⟩
  exact CI.two (g := S.2) (key (S'.1, S.2) ⟨rfl, fun a j hx => e a j (by
    simp only [Bool.not_eq_false', decide_eq_true_eq] at hx
    exact hx)⟩)
theorem capR_row : ∀ q ∈ TW, capR q.2.1 = q.2.2.1 ∧ 108 ≤ q.2.1 ∧ q.2.1 ≤ 124 ∧ q.2.2.2 < 11 ∧ cmx q.2.2.2 = q.2.2.1 := by decide
theorem RI.kept {W : VW} {V : VL} {sd : Nat} {P : PL} {N : Nat} {H : HL} {S S' : ST} (hW : WF W) (hR : RI W V sd P N H S) (e : ∀ a j, 95 ≤ a → XRd (1 - sd) a j = false → S'.1 a j = S.1 a j) : RI W V sd P N H S' := by
  obtain ⟨⟨s1, s2, s3, s4, s5, s6⟩, h2, h3, h4, h5, h6⟩ := hR
  have e' : ∀ a j, 95 ≤ a → (a ≠ 95 ∨ j = 18 ∨ j = 61 ∨ j = 62 ∨ j = 73) → (a < 97 ∨ 100 < a) → a ≠ 104 → a ≠ 105 → (a < 106 ∨ 136 < a) → S'.1 a j = S.1 a j := fun a j h0 h1 h2 h3 h4 h5 => e a j h0 (by
    simp only [XRd, XTe, lawJ, Bool.or_eq_false_iff, Bool.and_eq_false_iff, beq_eq_false_iff_ne, decide_eq_false_iff_not]
    omega)
  have hsd : sd = 0 ∨ sd = 1 := by omega
  have e106 : ∀ k, k < 8 → S'.1 106 (8 * sd + k) = S.1 106 (8 * sd + k) := fun k hk => e _ _ (by decide) (by
    rcases hsd with h | h
    all_goals
      subst h
      simp only [XRd, XTe, lawJ, Bool.or_eq_false_iff, Bool.and_eq_false_iff, beq_eq_false_iff_ne, decide_eq_false_iff_not]
      omega)
  have e107 : S'.1 107 sd = S.1 107 sd := e _ _ (by decide) (by
    rcases hsd with h | h
    all_goals
      subst h
      simp only [XRd, XTe, lawJ, Bool.or_eq_false_iff, Bool.and_eq_false_iff, beq_eq_false_iff_ne, decide_eq_false_iff_not]
      omega)
  have e125 : ∀ k, k < 2 → S'.1 125 (2 * sd + k) = S.1 125 (2 * sd + k) := fun k hk => e _ _ (by decide) (by
    rcases hsd with h | h
    all_goals
      subst h
      simp only [XRd, XTe, lawJ, Bool.or_eq_false_iff, Bool.and_eq_false_iff, beq_eq_false_iff_ne, decide_eq_false_iff_not]
      omega)
  have erow : ∀ a j, 108 ≤ a → a ≤ 124 → j < capR a → S'.1 a (capR a * sd + j) = S.1 a (capR a * sd + j) := fun a j h1 h2 h3 => e _ _ (by omega) (by
    rcases hsd with h | h
    · subst h
      simp only [XRd, XTe, lawJ, Bool.or_eq_false_iff, Bool.and_eq_false_iff, beq_eq_false_iff_ne, decide_eq_false_iff_not, Nat.mul_zero, Nat.mul_one, Nat.sub_zero]
      omega
    · subst h
      simp only [XRd, XTe, lawJ, Bool.or_eq_false_iff, Bool.and_eq_false_iff, beq_eq_false_iff_ne, decide_eq_false_iff_not, Nat.mul_zero, Nat.mul_one, Nat.sub_self]
      omega)
  have elaw : ∀ a j, lawC a = true → lawJ sd a j = true → S'.1 a j = S.1 a j := fun a j ha hj => e _ _ (by simp only [lawC, decide_eq_true_eq] at ha; omega) (by
    simp only [lawC, decide_eq_true_eq] at ha
    rcases hsd with h | h
    all_goals
      subst h
      simp only [lawJ, decide_eq_true_eq] at hj
      simp only [XRd, XTe, lawJ, Bool.or_eq_false_iff, Bool.and_eq_false_iff, beq_eq_false_iff_ne, decide_eq_false_iff_not]
      omega)
  refine ⟨⟨s1, ?_, fun k hk => by rw [e106 k hk]; exact s3 k hk, by rw [e107]; exact s4, fun s hs => by rw [e125 s hs]; exact s5 s hs, fun q hq k hk => ?_⟩, h2.fr elaw, ⟨?_, fun k hk => ?_⟩, fun s hs => ⟨fun z => ?_, fun q hq => ?_⟩, ?_, ?_⟩
  · rw [e' _ _ (by decide) (by omega) (by omega) (by omega) (by omega) (by omega)]; exact s2
  · obtain ⟨c1, c2, c3, c4, c5⟩ := capR_row q hq
    have hm := hW.mx c4
    have hmx : ∀ k : Fin 11, MX k.val = cmx k.val := by decide
    have := hmx ⟨_, c4⟩
    dsimp only at this
    have er := erow q.2.1 k c2 c3 (by omega)
    rw [c1] at er
    rw [er]
    exact s6 q hq k hk
  · rw [e' _ _ (by decide) (by omega) (by omega) (by omega) (by omega) (by omega)]; exact h3.1
  · obtain ⟨p1, p2, p3, p4, p5⟩ := h3.2 k hk
    rw [e' _ _ (by decide) (by omega) (by omega) (by omega) (by omega) (by omega), e' _ _ (by decide) (by omega) (by omega) (by omega) (by omega) (by omega), e' _ _ (by decide) (by omega) (by omega) (by omega) (by omega) (by omega), e' _ _ (by decide) (by omega) (by omega) (by omega) (by omega) (by omega), e' _ _ (by decide) (by omega) (by omega) (by omega) (by omega) (by omega)]
    exact ⟨p1, p2, p3, p4, p5⟩
  · rw [e' _ _ (by decide) (by omega) (by omega) (by omega) (by omega) (by omega)]; exact (h4 s hs).1 z
  · obtain ⟨g1, g2⟩ := (h4 s hs).2 q hq
    refine ⟨by rw [e' _ _ (by decide) (by omega) (by omega) (by omega) (by omega) (by omega)]; exact g1, fun k hk => ?_⟩
    obtain ⟨p1, p2, p3, p4, p5⟩ := g2 k hk
    rw [e' _ _ (by decide) (by omega) (by omega) (by omega) (by omega) (by omega), e' _ _ (by decide) (by omega) (by omega) (by omega) (by omega) (by omega), e' _ _ (by decide) (by omega) (by omega) (by omega) (by omega) (by omega), e' _ _ (by decide) (by omega) (by omega) (by omega) (by omega) (by omega), e' _ _ (by decide) (by omega) (by omega) (by omega) (by omega) (by omega)]
    exact ⟨p1, p2, p3, p4, p5⟩
  · rw [e' _ _ (by decide) (by omega) (by omega) (by omega) (by omega) (by omega)]; exact h5
  · rw [e' _ _ (by decide) (by omega) (by omega) (by omega) (by omega) (by omega)]; exact h6
/-! at the level of the memory -/
section FRD
variable {K0 K : AK} {R : Nat → Nat → Option Nat} {tw en n : Nat} {S : ST}
theorem gR_8 {j v : Nat} (hL : Lay K R tw en) (h : R 8 j = some v) : gR 11 j (mkM K R S) 8 = some v := by simp [gR, mkM, kd_8 hL, h]
theorem gI_8 {j : Nat} (hL : Lay K R tw en) : gI 11 j (mkM K R S) 8 = some (S.1 8 j) := by simp [gI, mkM, kd_8 hL]
theorem pI_8 {j : Nat} {v : Int32} (hL : Lay K R tw en) : pI 11 j (mkM K R S) 8 v = some (mkM K R (upI S 8 j v)) := by
  unfold pI
  rw [if_pos ⟨kd_8 hL, Nat.le_refl _⟩]; rfl
theorem pZ_8 {j : Nat} {v : Int32} (hL : Lay K R tw en) (h : v = 0 ∨ v = 1) : pZ 11 j (mkM K R S) 8 v = some (mkM K R (upI S 8 j v)) := by
  unfold pZ
  rw [if_pos ⟨kd_8 hL, Nat.le_refl _, h⟩]; rfl
def upR (R : Nat → Nat → Option Nat) (j v : Nat) : Nat → Nat → Option Nat := upf R 8 (upf (R 8) j (some v))
theorem pR_8 {j v : Nat} (hL : Lay K R tw en) : pR 11 j (mkM K R S) 8 v = some (mkM K (upR R j v) S) := by
  unfold pR
  rw [if_pos ⟨kd_8 hL, Nat.le_refl _⟩]; rfl
theorem upR_ne {j v a i : Nat} (h : a ≠ 8 ∨ i ≠ j) : upR R j v a i = R a i := by
  unfold upR
  by_cases e : a = 8
  · subst e
    rw [upf_same]
    exact upf_ne _ _ (by omega)
  · rw [upf_ne _ _ e]
theorem upR_eq {j v : Nat} : upR R j v 8 j = some v := by
  unfold upR
  rw [upf_same, upf_same]
set_option maxRecDepth 100000 in
theorem RAll_8 : ∀ q ∈ RAll, q.1 ≠ 8 ∨ (q.2.1 ≠ 6 ∧ q.2.1 ≠ 7) := by decide
theorem Lay.swap (hL : Lay K R tw en) : Lay K (upR (upR R 6 (69 - tw)) 7 tw) (69 - tw) en := by
  obtain ⟨h1, h2, h3, h4, h5, h6⟩ := hL
  refine ⟨h1, fun q hq => ?_, ?_, ?_, by omega, ?_⟩
  · have := RAll_8 q hq
    rw [upR_ne (by omega), upR_ne (by omega)]; exact h2 q hq
  · rw [upR_ne (by omega), upR_eq]
  · rw [upR_eq, show 69 - (69 - tw) = tw by omega]
  · rw [upR_ne (by omega), upR_ne (by omega)]; exact h6
end FRD
