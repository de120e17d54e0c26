/-! ===== aim: the array of entries comes into being ===== -/
/-- the layout at a time: before and after the entries' array -/
def LyP (K0 K : AK) (R : Nat → Nat → Option Nat) (tw en : Nat) : Prop := Lay K R tw en ∧ K0.length = 161 ∧ ((en = 91 ∧ K = K0) ∨ (en = 161 ∧ K = K0 ++ [.inr (0, 24576)]))
theorem LyP.hE {K0 K : AK} {R : Nat → Nat → Option Nat} {tw : Nat} (h : LyP K0 K R tw 161) : K[161]? = some (.inr (0, 24576)) := by
  rcases h.2.2 with ⟨z, _⟩ | ⟨_, z⟩
  · omega
  · have hl := h.2.1
    rw [z, List.getElem?_append_right (by omega), hl]; rfl
def RNew (R : Nat → Nat → Option Nat) : Nat → Nat → Option Nat := upf (upf R 161 (fun _ => none)) 90 (upf ((upf R 161 (fun _ => none)) 90) 2 (some 161))
set_option maxRecDepth 100000 in
theorem RAll_ne : ∀ q ∈ RAll, q.1 ≠ 161 ∧ (q.1 ≠ 90 ∨ q.2.1 ≠ 2) := by decide
theorem RNew_at {R : Nat → Nat → Option Nat} {a j : Nat} (h : a ≠ 161) (h2 : a ≠ 90 ∨ j ≠ 2) : RNew R a j = R a j := by
  unfold RNew
  by_cases e : a = 90
  · subst e
    rw [upf_same, upf_ne _ _ (by omega), upf_ne _ _ (by omega)]
  · rw [upf_ne _ _ e, upf_ne _ _ h]
theorem RNew_90 {R : Nat → Nat → Option Nat} : RNew R 90 2 = some 161 := by
  unfold RNew
  rw [upf_same, upf_same]
theorem LyP.new {K0 K : AK} {R : Nat → Nat → Option Nat} {tw : Nat} (h : LyP K0 K R tw 91) : LyP K0 (K0 ++ [.inr (0, 24576)]) (RNew R) tw 161 := by
  obtain ⟨⟨h1, h2, h3, h4, h5, h6⟩, hl, hk⟩ := h
  have ek : K = K0 := by
    rcases hk with ⟨_, z⟩ | ⟨z, _⟩
    · exact z
    · omega
  subst ek
  refine ⟨⟨fun k hk1 hk2 => ?_, fun q hq => ?_, ?_, ?_, h5, RNew_90⟩, hl, Or.inr ⟨rfl, rfl⟩⟩
  · rw [List.getElem?_append_left (by omega)]; exact h1 k hk1 hk2
  · have := RAll_ne q hq
    rw [RNew_at this.1 this.2]; exact h2 q hq
  · rw [RNew_at (by omega) (by omega)]; exact h3
  · rw [RNew_at (by omega) (by omega)]; exact h4
