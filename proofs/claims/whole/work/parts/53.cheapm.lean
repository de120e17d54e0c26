/-! ===== the cheapest way: what an entry is ===== -/
abbrev vC (W : VW) (V : VL) (t h c : Nat) : Prop := 0 < W 0 0 ∧ ((c < 1000 ∧ c / 20 < W 0 1 ∧ c % 20 < W 0 1 ∧ wMay W V nD (c / 20) (c % 20) h 0 = true) ∨ (1000 ≤ c ∧ c < 2000 ∧ (c - 1000) / 20 < W 0 1 ∧ (c - 1000) % 20 < W 0 7 ∧ W 15 ((c - 1000) % 20) = t))
def pC (c : Nat) : Nat := c % 1000 / 20
def sC (W : VW) (h c : Nat) : Nat := if c < 1000 then wHearN W (pC c) h else wStandN W (pC c) h
def kC (W : VW) (c : Nat) : Nat := if c < 1000 then 1 else W 16 ((c - 1000) % 20)
section CHM
variable {W : VW} {V : VL}
def gC (W : VW) (f : Nat → Nat) (h x c : Nat) : Nat := (f (x ||| sC W h c) + 32 * kC W c + 1) * 2048 + c
/-- a way of one villager -/
def isC (W : VW) (V : VL) (t : Nat) (f : Nat → Nat) (h x p M : Nat) : Prop := ∃ c, c < 2000 ∧ vC W V t h c ∧ pC c = p ∧ x ||| sC W h c ≠ x ∧ M = gC W f h x c
theorem bsN_z {Q : Nat → Bool} (h : ∀ i, Q i = false) : ∀ m, bsN Q m = 0 := by
  intro m
  apply Nat.eq_of_testBit_eq
  intro i
  rw [bsN_bit, h i]
  simp
theorem noland_may (g0 : ¬ 0 < W 0 0) {p o h : Nat} : wMay W V nD p o h 0 = false := by
  have hon : ∀ q, wOn W nD q = false := fun q => by simp [wOn, nD]; omega
  simp [wMay, wMayL, hon]
theorem noland_stand (g0 : ¬ 0 < W 0 0) {p h : Nat} : wStandN W p h = 0 := by
  have hon : ∀ q, wOn W nD q = false := fun q => by simp [wOn, nD]; omega
  exact bsN_z (fun q => by simp [wStand, hon]) _
theorem chSay_min {t : Nat} {f : Nat → Nat} {h x p : Nat} (hm1 : W 0 1 ≤ 10) (hp : p < W 0 1) : (chSay W V f h x p = 1024002047 ∨ isC W V t f h x p (chSay W V f h x p)) ∧ ∀ c, c < 1000 → vC W V t h c → pC c = p → x ||| sC W h c ≠ x → chSay W V f h x p ≤ gC W f h x c := by
  refine ⟨?_, ?_⟩
  · unfold chSay
    by_cases c1 : wSpk W V p h = true ∧ x ||| wHearN W p h ≠ x
    · rw [if_pos c1]
      by_cases c2 : wINF * 2048 + 2047 ≤ (f (x ||| wHearN W p h) + 33) * 2048 + 20 * p + wLeast W V p h
      · left
        rw [Nat.min_eq_left c2]; rfl
      · right
        rw [Nat.min_eq_right (by omega)]
        obtain ⟨o, ho, hm⟩ := anyN_iff.mp c1.1
        have hl : srch (fun o => wMay W V nD p o h 0) 0 (W 0 1) = some (wLeast W V p h) := by
          unfold wLeast
          cases c : srch (fun o => wMay W V nD p o h 0) 0 (W 0 1) with
          | some j => rfl
          | none =>
            have := srch_none c o (Nat.zero_le _) (by omega)
            rw [hm] at this; cases this
        obtain ⟨g1, g2, g3, g4⟩ := srch_some hl
        have g0 : 0 < W 0 0 := Classical.byContradiction fun z => by
          rw [noland_may z] at hm; cases hm
        generalize wLeast W V p h = l at *
        have e1 : (20 * p + l) / 20 = p := by omega
        have e2 : (20 * p + l) % 20 = l := by omega
        have e3 : pC (20 * p + l) = p := by unfold pC; omega
        have e4 : 20 * p + l < 1000 := by omega
        refine ⟨20 * p + l, by omega, ⟨g0, Or.inl ⟨e4, by omega, by omega, by rw [e1, e2]; exact g3⟩⟩, e3, ?_, ?_⟩
        · unfold sC; rw [if_pos e4, e3]; exact c1.2
        · unfold gC sC kC; rw [if_pos e4, if_pos e4, e3]; omega
    · rw [if_neg c1]; exact Or.inl rfl
  · intro c hc hv hpc hne
    unfold sC at hne
    rw [if_pos hc, hpc] at hne
    obtain ⟨g0, ⟨v1, v2, v3, v4⟩ | ⟨v1, _⟩⟩ := hv
    · have ep : c / 20 = p := by unfold pC at hpc; omega
      rw [ep] at v4
      have hs : wSpk W V p h = true := anyN_iff.mpr ⟨_, v3, v4⟩
      unfold chSay gC sC kC
      rw [if_pos ⟨hs, hne⟩, if_pos hc, if_pos hc, hpc]
      have hl : wLeast W V p h ≤ c % 20 := by
        unfold wLeast
        cases c1 : srch (fun o => wMay W V nD p o h 0) 0 (W 0 1) with
        | none => exact Nat.zero_le _
        | some j =>
          obtain ⟨g1, g2, g3, g4⟩ := srch_some c1
          show j ≤ c % 20
          by_cases c2 : j ≤ c % 20
          · exact c2
          · have := g4 (c % 20) (Nat.zero_le _) (by omega)
            rw [v4] at this; cases this
      omega
    · omega
theorem chBy_min {t : Nat} {f : Nat → Nat} {h x p : Nat} (hm1 : W 0 1 ≤ 10) (hm7 : W 0 7 ≤ 6) (hp : p < W 0 1) : ∀ a, a ≤ W 0 7 → (chBy W V t f h x p a = 1024002047 ∨ isC W V t f h x p (chBy W V t f h x p a)) ∧ ∀ c, vC W V t h c → pC c = p → x ||| sC W h c ≠ x → (c < 1000 ∨ (c - 1000) % 20 < a) → chBy W V t f h x p a ≤ gC W f h x c := by
  intro a
  induction a with
  | zero =>
    intro _
    obtain ⟨h1, h2⟩ := chSay_min (V := V) (t := t) (f := f) (h := h) (x := x) hm1 hp
    refine ⟨h1, fun c hv hpc hne hc => h2 c (by omega) hv hpc hne⟩
  | succ a ih =>
    intro ha
    obtain ⟨h1, h2⟩ := ih (by omega)
    rw [chBy]
    by_cases c1 : W 15 a = t ∧ x ||| wStandN W p h ≠ x
    · rw [if_pos c1]
      have g0 : 0 < W 0 0 := Classical.byContradiction fun z => by
        have := c1.2
        rw [noland_stand z, Nat.or_zero] at this
        exact this rfl
      have e0 : ¬ 1000 + 20 * p + a < 1000 := by omega
      have e1 : (1000 + 20 * p + a - 1000) / 20 = p := by omega
      have e2 : (1000 + 20 * p + a - 1000) % 20 = a := by omega
      have e3 : pC (1000 + 20 * p + a) = p := by unfold pC; omega
      have eg : gC W f h x (1000 + 20 * p + a) = (f (x ||| wStandN W p h) + W 16 a * 32 + 1) * 2048 + 1000 + 20 * p + a := by
        unfold gC sC kC; rw [if_neg e0, if_neg e0, e3, e2]; omega
      rw [← eg]
      have hvc : vC W V t h (1000 + 20 * p + a) := ⟨g0, Or.inr ⟨by omega, by omega, by omega, by omega, by rw [e2]; exact c1.1⟩⟩
      have hne : x ||| sC W h (1000 + 20 * p + a) ≠ x := by unfold sC; rw [if_neg e0, e3]; exact c1.2
      refine ⟨?_, ?_⟩
      · by_cases c2 : chBy W V t f h x p a ≤ gC W f h x (1000 + 20 * p + a)
        · rw [Nat.min_eq_left c2]; exact h1
        · rw [Nat.min_eq_right (by omega)]
          exact Or.inr ⟨_, by omega, hvc, e3, hne, rfl⟩
      · intro c hv hpc hn hc
        by_cases c3 : c < 1000 ∨ (c - 1000) % 20 < a
        · exact Nat.le_trans (Nat.min_le_left _ _) (h2 c hv hpc hn c3)
        · have ec : c = 1000 + 20 * p + a := by
            obtain ⟨_, ⟨v1, _⟩ | ⟨v1, v2, v3, v4, v5⟩⟩ := hv
            · omega
            · unfold pC at hpc
              omega
          rw [ec]
          exact Nat.min_le_right _ _
    · rw [if_neg c1]
      refine ⟨h1, fun c hv hpc hn hc => ?_⟩
      by_cases c3 : c < 1000 ∨ (c - 1000) % 20 < a
      · exact h2 c hv hpc hn c3
      · exfalso
        have ea : (c - 1000) % 20 = a := by omega
        obtain ⟨_, ⟨v1, _⟩ | ⟨v1, v2, v3, v4, v5⟩⟩ := hv
        · omega
        · rw [ea] at v5
          unfold sC at hn
          rw [if_neg (by omega), hpc] at hn
          exact c1 ⟨v5, hn⟩
theorem chEnt_min {t : Nat} {f : Nat → Nat} {h x : Nat} (hm1 : W 0 1 ≤ 10) (hm7 : W 0 7 ≤ 6) (hf : f x ≤ 500000) : ∀ i, i ≤ W 0 1 → (chEnt W V t f h x i = f x * 2048 + 2047 ∨ ∃ p, p < i ∧ x.testBit p = true ∧ isC W V t f h x p (chEnt W V t f h x i)) ∧ chEnt W V t f h x i ≤ f x * 2048 + 2047 ∧ ∀ c, vC W V t h c → pC c < i → x.testBit (pC c) = true → x ||| sC W h c ≠ x → chEnt W V t f h x i ≤ gC W f h x c := by
  intro i
  induction i with
  | zero => intro _; exact ⟨Or.inl rfl, Nat.le_refl _, fun c _ h => absurd h (Nat.not_lt_zero _)⟩
  | succ i ih =>
    intro hi
    obtain ⟨h1, h2, h3⟩ := ih (by omega)
    rw [chEnt]
    by_cases c1 : x.testBit i = true
    · rw [if_pos c1]
      obtain ⟨b1, b2⟩ := chBy_min (V := V) (t := t) (f := f) (h := h) (x := x) hm1 hm7 (show i < W 0 1 by omega) (W 0 7) (Nat.le_refl _)
      refine ⟨?_, Nat.le_trans (Nat.min_le_left _ _) h2, ?_⟩
      · by_cases c2 : chEnt W V t f h x i ≤ chBy W V t f h x i (W 0 7)
        · rw [Nat.min_eq_left c2]
          rcases h1 with z | ⟨p, z1, z2, z3⟩
          · exact Or.inl z
          · exact Or.inr ⟨p, by omega, z2, z3⟩
        · rw [Nat.min_eq_right (by omega)]
          rcases b1 with z | z
          · omega
          · exact Or.inr ⟨i, by omega, c1, z⟩
      · intro c hv hpc hb hn
        by_cases c3 : pC c < i
        · exact Nat.le_trans (Nat.min_le_left _ _) (h3 c hv c3 hb hn)
        · refine Nat.le_trans (Nat.min_le_right _ _) (b2 c hv (by omega) hn ?_)
          obtain ⟨_, ⟨v1, _⟩ | ⟨v1, v2, v3, v4, v5⟩⟩ := hv
          · exact Or.inl v1
          · exact Or.inr v4
    · rw [if_neg c1]
      refine ⟨?_, h2, ?_⟩
      · rcases h1 with z | ⟨p, z1, z2, z3⟩
        · exact Or.inl z
        · exact Or.inr ⟨p, by omega, z2, z3⟩
      · intro c hv hpc hb hn
        by_cases c3 : pC c = i
        · rw [c3] at hb; exact absurd hb c1
        · exact h3 c hv (by omega) hb hn
theorem vC_p {t h c : Nat} (hv : vC W V t h c) : pC c < W 0 1 := by
  obtain ⟨_, ⟨v1, v2, _⟩ | ⟨v1, v2, v3, _⟩⟩ := hv
  · unfold pC; omega
  · unfold pC; omega
end CHM
