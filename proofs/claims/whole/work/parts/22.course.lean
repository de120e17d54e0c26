/-! ===== a plan, and what comes of it (numbers alone) ===== -/
/-- a plan: P 0 k sort (0 say 1 show 2 leave 3 ask), 1 hour, 2 person, 3 the other one or the act, 4 the thing -/
abbrev PL : Type := Nat → Nat → Nat
def PWF (W : VW) (P : PL) (N : Nat) : Prop := N ≤ 30 ∧ ∀ k, k < N → P 0 k < 4 ∧ P 1 k < 24 ∧ P 2 k < W 0 1 ∧ P 4 k < W 0 2 ∧ (P 0 k = 0 ∨ P 0 k = 3 → P 3 k < W 0 1 ∧ P 3 k ≠ P 2 k) ∧ (P 0 k = 1 → P 3 k < W 0 7 ∧ P 4 k = W 15 (P 3 k))
abbrev FT2 : Type := Nat → Nat → Nat
/-- may say or ask by the laws as told -/
def wMay (W : VW) (V : VL) (D : Nat → Bool) (p o h s : Nat) : Bool := wMayL W V D p o h s 0
def wTalks (P : PL) (k : Nat) : Bool := P 0 k == 0 || P 0 k == 3
def wWhy (W : VW) (V : VL) (P : PL) (D : Nat → Bool) (F : FT2) (h k : Nat) : Nat :=
  if D (P 2 k) = true then 5
  else if anyN (fun j => P 1 j == P 1 k && P 2 j == P 2 k) k = true then 1
  else if (!wOn W D (P 2 k) || (wTalks P k && !(wOn W D (P 3 k) && decide (wPl W (P 3 k) h = wPl W (P 2 k) h)))) = true then 2
  else if (decide (P 0 k ≠ 3) && !decide (F (P 2 k) (P 4 k) ≤ h)) = true then 3
  else if (wTalks P k && !wMay W V D (P 2 k) (P 3 k) h (if P 0 k = 3 then 1 else 0)) = true then 4
  else 0
/-- what a doing at its hour teaches -/
def wTeach (W : VW) (V : VL) (P : PL) (D : Nat → Bool) (F : FT2) (h k p t : Nat) : Bool :=
  decide (P 4 k = t) && (if P 0 k = 0 then wHear W D (wPl W (P 2 k) h) h p else if P 0 k = 1 then wStand W D (wPl W (P 2 k) h) h p else if P 0 k = 2 then false
    else decide (F (P 3 k) (P 4 k) ≤ h) && wMay W V D (P 3 k) (P 2 k) h 0 && wHear W D (wPl W (P 2 k) h) h p)
/-- what a writing that was left at an hour ahead teaches -/
def wRead (W : VW) (P : PL) (D : Nat → Bool) (Y : Nat → Nat) (h k p t : Nat) : Bool :=
  decide (P 1 k < h) && decide (P 0 k = 2) && decide (Y k = 0) && decide (P 4 k = t) && wStand W D (wPl W (P 2 k) (P 1 k)) h p
/-- what a question shows -/
def wSee (W : VW) (V : VL) (P : PL) (D : Nat → Bool) (F : FT2) (h k s o t : Nat) : Bool :=
  decide (P 0 k = 3) && decide (P 2 k = o) && decide (P 4 k = t) && decide (s ≠ o) && !decide (F o t ≤ h) && wHear W D (wPl W (P 2 k) h) h s && decide (s < W 0 1)
def sY (W : VW) (V : VL) (P : PL) (D : Nat → Bool) (h : Nat) (F : FT2) (Y : Nat → Nat) : Nat → Nat := fun k => if P 1 k = h then wWhy W V P D F h k else Y k
def qF (W : VW) (V : VL) (P : PL) (D : Nat → Bool) (h : Nat) (F : FT2) (Y : Nat → Nat) (p t k : Nat) : Bool := (decide (P 1 k = h) && decide (wWhy W V P D F h k = 0) && wTeach W V P D F h k p t) || wRead W P D Y h k p t
def sF (W : VW) (V : VL) (P : PL) (N : Nat) (D : Nat → Bool) (h : Nat) (F : FT2) (Y : Nat → Nat) : FT2 := fun p t => if F p t ≤ h then F p t else if anyN (qF W V P D h F Y p t) N = true then h + 1 else 99
def qN (W : VW) (V : VL) (P : PL) (D : Nat → Bool) (h : Nat) (F : FT2) (s o t k : Nat) : Bool := decide (P 1 k = h) && decide (wWhy W V P D F h k = 0) && wSee W V P D F h k s o t
def sN (W : VW) (V : VL) (P : PL) (N : Nat) (D : Nat → Bool) (h : Nat) (F : FT2) (U : Nat → Nat → Nat → Nat) : Nat → Nat → Nat → Nat := fun s o t => if U s o t ≤ h then U s o t else if anyN (qN W V P D h F s o t) N = true then h + 1 else 99
abbrev CS : Type := FT2 × (Nat → Nat) × (Nat → Nat → Nat → Nat)
def wFirst (W : VW) (p t : Nat) : Bool := anyN (fun k => W 10 k == p && W 11 k == t) (W 0 5)
def cSt (W : VW) (V : VL) (P : PL) (N : Nat) (DD : Nat → Nat → Bool) : Nat → CS
  | 0 => (fun p t => if wFirst W p t = true then 0 else 99, fun _ => 0, fun _ _ _ => 99)
  | h + 1 => (sF W V P N (DD h) h (cSt W V P N DD h).1 (cSt W V P N DD h).2.1, sY W V P (DD h) h (cSt W V P N DD h).1 (cSt W V P N DD h).2.1, sN W V P N (DD h) h (cSt W V P N DD h).1 (cSt W V P N DD h).2.2)
/-- known from an hour ahead of h, or not yet -/
def Upto (h : Nat) (F : FT2) : Prop := ∀ p t, F p t ≤ h ∨ F p t = 99
section CRS
variable {W : VW} {V : VL} {P : PL} {N : Nat} {DD : Nat → Nat → Bool}
theorem cSt_F : ∀ h, Upto h (cSt W V P N DD h).1 := by
  intro h
  induction h with
  | zero =>
    intro p t
    simp only [cSt]
    split
    · exact Or.inl (Nat.le_refl _)
    · exact Or.inr rfl
  | succ h ih =>
    intro p t
    simp only [cSt, sF]
    rcases ih p t with h1 | h1
    · rw [if_pos h1]; exact Or.inl (by omega)
    · split
      · omega
      · split
        · exact Or.inl (Nat.le_refl _)
        · exact Or.inr rfl
theorem cSt_U : ∀ h s o t, (cSt W V P N DD h).2.2 s o t ≤ h ∨ (cSt W V P N DD h).2.2 s o t = 99 := by
  intro h
  induction h with
  | zero => intro s o t; exact Or.inr rfl
  | succ h ih =>
    intro s o t
    simp only [cSt, sN]
    rcases ih s o t with h1 | h1
    · rw [if_pos h1]; exact Or.inl (by omega)
    · split
      · omega
      · split
        · exact Or.inl (Nat.le_refl _)
        · exact Or.inr rfl
/-- what was known at an hour doesn't change any more -/
theorem cSt_old : ∀ {h h' : Nat}, h ≤ h' → ∀ p t i, i ≤ h → ((cSt W V P N DD h').1 p t ≤ i ↔ (cSt W V P N DD h).1 p t ≤ i) := by
  intro h h' hh
  induction h' with
  | zero =>
    intro p t i hi
    have : h = 0 := by omega
    subst this; rfl
  | succ h' ih =>
    intro p t i hi
    by_cases e : h = h' + 1
    · subst e; rfl
    · rw [← ih (by omega) p t i hi]
      have := cSt_F (W := W) (V := V) (P := P) (N := N) (DD := DD) h' p t
      simp only [cSt, sF]
      split
      · rfl
      · split <;> omega
end CRS
