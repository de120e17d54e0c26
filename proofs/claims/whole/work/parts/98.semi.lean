/-! ===== no semicolon within a tell ===== -/
theorem cst_22 {K V : Nat → Nat} {q : CQ} (z : (cst K V q).y.1 = 0) : (cst K V q).y.2 = q.y.2 + 1 ∧ K q.y.2 ≠ 22 := by
  have key : ∀ (k : Nat) (y' : Nat × Nat), y' = tk K k q.y → k = K q.y.2 → k ≠ 22 → y'.1 = 0 → y'.2 = q.y.2 + 1 ∧ K q.y.2 ≠ 22 := fun k y' e ek hk h => by
    rw [e] at h ⊢
    obtain ⟨_, _, _, a4⟩ := tk_0 h
    rw [a4]
    exact ⟨rfl, by rw [← ek]; exact hk⟩
  rw [cst.eq_1] at z ⊢
  by_cases hb : q.b = false
  · rw [if_pos hb] at z ⊢
    by_cases c1 : K q.y.2 = 15 ∧ q.g = false
    · rw [if_pos c1] at z ⊢; exact key _ _ rfl rfl (by omega) z
    rw [if_neg c1] at z ⊢
    by_cases c2 : K q.y.2 = 32
    · rw [if_pos c2] at z ⊢
      by_cases c3 : opn q.s < 6
      · rw [if_pos c3] at z ⊢; exact key _ _ rfl rfl (by omega) z
      · rw [if_neg c3] at z; cases z
    rw [if_neg c2] at z ⊢
    by_cases c3 : K q.y.2 = 21 ∨ (16 ≤ K q.y.2 ∧ K q.y.2 ≤ 19)
    · rw [if_pos c3] at z ⊢; exact key _ _ rfl rfl (by omega) z
    · rw [if_neg c3] at z; cases z
  rw [if_neg hb] at z ⊢
  by_cases c1 : K q.y.2 = 33 ∧ 0 < opn q.s
  · rw [if_pos c1] at z ⊢; exact key _ _ rfl rfl (by omega) z
  rw [if_neg c1] at z ⊢
  by_cases c2 : 24 ≤ K q.y.2 ∧ K q.y.2 ≤ 27
  · rw [if_pos c2] at z ⊢; exact key _ _ rfl rfl (by omega) z
  rw [if_neg c2] at z ⊢
  cases hlf : q.lf with
  | none =>
    rw [hlf] at z
    dsimp only at z ⊢
    by_cases c3 : (28 ≤ K q.y.2 ∧ K q.y.2 ≤ 31) ∧ opn q.s = 0
    · rw [if_pos c3] at z ⊢; exact key _ _ rfl rfl (by omega) z
    · rw [if_neg c3] at z; cases z
  | some x =>
    obtain ⟨how, l⟩ := x
    rw [hlf] at z
    dsimp only at z ⊢
    by_cases c3 : K q.y.2 = 14 ∧ opn q.s = 0
    · rw [if_pos c3] at z ⊢; exact key _ _ rfl rfl (by omega) z
    rw [if_neg c3] at z ⊢
    by_cases c4 : K q.y.2 = 13 ∧ opn q.s = 0
    · rw [if_pos c4] at z ⊢; exact key _ _ rfl rfl (by omega) z
    · rw [if_neg c4] at z; cases z
