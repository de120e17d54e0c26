/-! ===== the class: a stay is told ===== -/
theorem c_addStay {n w m a f t : Nat} {S : ST} {b : Int32} (hn : 30000 ≤ n) (hw : w = 22 ∨ w = 47) (hc : S.1 (w + 1) 4 = nI m) (ha : a < 10) (hf : f ≤ t) (ht : t < 24) : Ok (E_X10_addStay n S w (nI a) b (nI f) (nI t)) (fun S' => S'.2 = S.2 ∧ (∀ d j, (d ≠ w + 1 ∨ j ≠ 4) → d ≠ w + 21 → S'.1 d j = S.1 d j) ∧ S'.1 (w + 1) 4 = nI (m + 1) ∧ ∀ j, S'.1 (w + 21) j = if a * 24 + f ≤ j ∧ j ≤ a * 24 + t then b else S.1 (w + 21) j) := by
  unfold E_X10_addStay
  apply Ok.step (x := nI m) (by rw [show (4 : Int32) = nI 4 from rfl, rd_nI (by decide) (by decide), hc])
  apply Ok.step (x := upI S (w + 1) 4 (nI m + 1)) (by rw [show (4 : Int32) = nI 4 from rfl, wr_nI (by decide) (by decide)])
  refine bindL (fun i (s : Int32 × ST) => s.1 = nI i ∧ s.2.2 = S.2 ∧ (∀ d j, (d ≠ w + 1 ∨ j ≠ 4) → d ≠ w + 21 → s.2.1 d j = S.1 d j) ∧ s.2.1 (w + 1) 4 = nI (m + 1) ∧ ∀ j, s.2.1 (w + 21) j = if a * 24 + f ≤ j ∧ j < a * 24 + i then b else S.1 (w + 21) j) (fun S' => S'.2 = S.2 ∧ (∀ d j, (d ≠ w + 1 ∨ j ≠ 4) → d ≠ w + 21 → S'.1 d j = S.1 d j) ∧ S'.1 (w + 1) 4 = nI (m + 1) ∧ ∀ j, S'.1 (w + 21) j = if a * 24 + f ≤ j ∧ j ≤ a * 24 + t then b else S.1 (w + 21) j) f (t + 1) (by omega) (by omega) ?_ ?_ ?_ (fun S' h => Ok.ret h)
  · refine ⟨rfl, rfl, fun d j h h2 => ?_, ?_, fun j => ?_⟩
    · rw [upI_at, if_neg (by omega)]
    · rw [upI_at, if_pos ⟨rfl, rfl⟩, nI_1]
    · rw [upI_at, if_neg (by omega), if_neg (by omega)]
  · rintro i ⟨u, S1⟩ h1 h2 ⟨rfl, g1, g2, g3, g4⟩
    dsimp only at g1 g2 g3 g4 ⊢
    refine Ok.ifF (nI_nlt (by omega) (by omega)) ?_
    have ei : (nI a * (24 : Int32)) + nI i = nI (a * 24 + i) := by rw [show (24 : Int32) = nI 24 from rfl, nI_mulN, nI_add]
    rw [ei]
    apply Ok.step (wr_nI (by omega) (by decide))
    refine Ok.inl ⟨nI_1 _, g1, fun d j h h2 => ?_, ?_, fun j => ?_⟩
    · dsimp only; rw [upI_at, if_neg (by omega)]; exact g2 d j h h2
    · dsimp only; rw [upI_at, if_neg (by omega)]; exact g3
    · dsimp only
      rw [upI_at]
      by_cases e : j = a * 24 + i
      · rw [if_pos ⟨rfl, e⟩, if_pos (by omega)]
      · rw [if_neg (fun z => e z.2), g4 j]
        by_cases c : a * 24 + f ≤ j ∧ j < a * 24 + i
        · rw [if_pos c, if_pos (by omega)]
        · rw [if_neg c, if_neg (by omega)]
  · rintro ⟨u, S1⟩ ⟨rfl, g1, g2, g3, g4⟩
    dsimp only at g1 g2 g3 g4 ⊢
    refine Ok.ifT (nI_lt (by omega) (by omega)) (Ok.inr ⟨g1, g2, g3, fun j => ?_⟩)
    rw [g4 j]
    by_cases c : a * 24 + f ≤ j ∧ j < a * 24 + (t + 1)
    · rw [if_pos c, if_pos (by omega)]
    · rw [if_neg c, if_neg (by omega)]
