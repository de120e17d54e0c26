/-! ===== the state after both constructors ===== -/
section STA
variable {L n : Nat} {xs : Nat → Int32} {D : DD}
theorem dnm_I {a : Nat} (h : 8 ≤ a) (j : Nat) : (dnm L xs D).2.1 a j = (fI D.2.2.1 a j).getD 0 := by
  show (fI D.2.2.1 a j).getD ((M0 L xs).2.1 a j) = _
  rw [M0_I h]
def K_s (L : Nat) : AK := (M0 L (fun _ => 0)).1 ++ E_22.1
def R_s : Nat → Nat → Option Nat := fun a j => fR E_22.2.1 a j
def S_s (xs : Nat → Int32) : ST := (fun a j => (fI E_22.2.2.1 a j).getD ((M0 0 xs).2.1 a j), fun a j => (fL E_22.2.2.2 a j).getD 0)
theorem S_hi {a : Nat} (h : 8 ≤ a) (j : Nat) : (S_s xs).1 a j = (fI E_22.2.2.1 a j).getD 0 := by
  show (fI E_22.2.2.1 a j).getD ((M0 0 xs).2.1 a j) = _
  rw [M0_I h]
theorem S_lo {a : Nat} (h : a < 8) (j : Nat) : (S_s xs).1 a j = (M0 0 xs).2.1 a j := by
  show (fI E_22.2.2.1 a j).getD ((M0 0 xs).2.1 a j) = _
  rw [fI_low (by decide +kernel) h]; rfl
theorem M_s : dnm L xs E_22 = mkM (K_s L) R_s (S_s xs) := by
  unfold K_s R_s S_s dnm mkM
  rfl
set_option maxRecDepth 100000 in
theorem K_len : (K_s L).length = 161 := by
  unfold K_s
  rw [List.length_append, M0_len]
  have f : 8 + E_22.1.length = 161 := by decide +kernel
  exact f
set_option maxRecDepth 100000 in
theorem Lay_s : Lay (K_s L) R_s 22 91 := by
  refine ⟨fun k h1 h2 => ?_, fun q hq => ?_, by unfold R_s; decide +kernel, by unfold R_s; decide +kernel, .inl rfl, by unfold R_s; decide +kernel⟩
  · by_cases h : k < 8
    · have e : (K_s L)[k]? = (M0 L (fun _ => 0)).1[k]? := List.getElem?_append_left h
      rw [e]
      match k, h1, h with
      | 1, _, _ => rfl
      | 2, _, _ => rfl
      | 3, _, _ => rfl
      | 4, _, _ => rfl
      | 5, _, _ => rfl
      | 6, _, _ => rfl
      | 7, _, _ => rfl
    · have e : (K_s L)[k]? = E_22.1[k - 8]? := List.getElem?_append_right (by show 8 ≤ k; omega)
      have f : ∀ i, i < 153 → E_22.1[i]? = KAll[i + 8]? := by decide +kernel
      rw [e, f (k - 8) (by omega), Nat.sub_add_cancel (by omega)]
  · have f : ∀ q ∈ RAll, fR E_22.2.1 q.1 q.2.1 = some q.2.2 := by decide +kernel
    exact f q hq
theorem LyP_s : LyP (K_s L) (K_s L) R_s 22 91 := ⟨Lay_s, K_len, .inl ⟨rfl, rfl⟩⟩
theorem S2_s : (S_s xs).2 161 = fun _ => 0 := by
  funext j
  show (fL E_22.2.2.2 161 j).getD 0 = 0
  rw [fL_none (m := 161) (by decide +kernel) (Nat.le_refl _)]; rfl
theorem GI_s : GI (S_s xs) := by
  refine ⟨fun k hk => ?_, fun j hj => ?_, fun j hj => ?_, ⟨0, Nat.zero_le _, ?_, ?_, fun k hk => absurd hk (Nat.not_lt_zero k)⟩, ?_⟩
  · rw [S_lo (by decide), S_lo (by decide), S_lo (by decide)]
    show iw arrMOST k = nI (cmx k) ∧ iw arrNAMES_OF k = nI (nmO k) ∧ iw arrINTS_OF k = nI (inO k)
    have f : ∀ k, k < 11 → iw arrMOST k = nI (cmx k) ∧ iw arrNAMES_OF k = nI (nmO k) ∧ iw arrINTS_OF k = nI (inO k) := by decide +kernel
    exact f k hk
  · have f : ∀ j, j < 20 → (fL E_22.2.2.2 14 j).getD 0 = nL (kwN j) := by decide +kernel
    exact f j hj
  · have f : ∀ j, j < 20 → (fL E_22.2.2.2 102 j).getD 0 = nL (keyN j) := by decide +kernel
    exact f j hj
  · rw [S_hi (by decide)]; decide +kernel
  · rw [S_hi (by decide)]; decide +kernel
  · rw [S_hi (by decide), S_hi (by decide)]; decide +kernel
theorem Ct_s : ∀ k, k < 10 → (S_s xs).1 4 k = nI (cntN k) := by
  intro k hk
  rw [S_lo (by decide)]
  show iw arrCOUNTED k = nI (cntN k)
  have f : ∀ k, k < 10 → iw arrCOUNTED k = nI (cntN k) := by decide +kernel
  exact f k hk
theorem Sc_s (j : Nat) : (S_s xs).1 0 j = xs j := S_lo (by decide) j
def W_s : VW := fun _ _ => 0
def V_s : VL := fun _ _ _ _ _ _ => false
theorem IV_s : IV W_s V_s 22 91 0 (fun _ _ => 0) 0 (fun _ => none) (S_s xs) := by
  have nz : ∀ {k : Nat}, ¬ k < W_s 0 0 := fun {k} h => absurd h (Nat.not_lt_zero k)
  have nn : ∀ {k a b : Nat} {Z : Prop}, k < W_s a b → Z := fun {k a b Z} h => absurd h (Nat.not_lt_zero k)
  have n0 : ∀ {k : Nat} {Z : Prop}, k < 0 → Z := fun {k Z} h => absurd h (Nat.not_lt_zero k)
  have hH : ∀ {q : PL × Nat} {Z : Prop}, (none : Option (PL × Nat)) = some q → Z := fun h => nomatch h
  refine ⟨⟨fun k hk => Nat.zero_le _, fun p h => nn h, fun p h => nn h, fun p h => nn h, fun p h => nn h, fun p h => nn h, fun p h => nn h, fun p h => nn h, fun p h => nn h⟩, ⟨Nat.zero_le _, fun k h => n0 h⟩, fun s _ q h => hH h, ?_, ?_⟩
  · refine ⟨⟨.inl rfl, fun k hk => ?_, fun p h => nn h, fun p h => nn h, fun p h => nn h, fun p hp => ?_, fun p h => nn h, fun p h => nn h, fun p h => nn h, fun p h => nn h, fun p h => nn h, fun p h => nn h, fun p h hp => nn hp, fun p h hp => nn hp, fun p h hp => nn hp, fun p h hp => nn hp, fun s hs => ?_, fun S' n s k _ _ _ hk => nn hk⟩, ⟨?_, fun k q hk => n0 hk⟩, fun s hs => ⟨fun _ => ?_, fun q h => hH h⟩, .inl ?_, .inl ?_, .inl rfl, .inl ?_⟩
    · rw [S_hi (by decide)]
      have f : ∀ k, k < 11 → (fI E_22.2.2.1 23 k).getD 0 = nI 0 := by decide +kernel
      exact f k hk
    · rw [S_hi (by decide)]
      have f : ∀ p, p < 10 → (fI E_22.2.2.1 28 p).getD 0 = bs (wFirst W_s p) 6 := by decide +kernel
      exact f p hp
    · rw [S_hi (by decide)]
      have f : ∀ p, p < 2 → (fI E_22.2.2.1 40 p).getD 0 = nI 0 := by decide +kernel
      exact f s hs
    · rw [S_hi (by decide)]; decide +kernel
    · rw [S_hi (by decide)]
      have f : ∀ p, p < 3 → (fI E_22.2.2.1 75 p).getD 0 = -1 := by decide +kernel
      exact f s hs
    · rw [S_hi (by decide)]; decide +kernel
    · rw [S_hi (by decide)]; decide +kernel
    · rw [S_hi (by decide)]; decide +kernel
  · refine ⟨⟨by decide, ?_, fun k hk => ?_, ?_, fun s hs => ?_, fun q _ k hk => nn hk⟩, fun S' n s k _ _ _ hk => nn hk, ⟨?_, fun k hk => n0 hk⟩, fun s hs => ⟨fun _ => ?_, fun q h => hH h⟩, ?_, ?_⟩
    · rw [S_hi (by decide)]; decide +kernel
    · rw [S_hi (by decide)]
      have f : ∀ k, k < 8 → (fI E_22.2.2.1 106 (8 * 0 + k)).getD 0 = nI 0 := by decide +kernel
      exact f k hk
    · rw [S_hi (by decide)]; decide +kernel
    · rw [S_hi (by decide)]
      have f : ∀ k, k < 2 → (fI E_22.2.2.1 125 (2 * 0 + k)).getD 0 = nI 0 := by decide +kernel
      exact f s hs
    · rw [S_hi (by decide)]; decide +kernel
    · rw [S_hi (by decide)]
      have f : ∀ p, p < 3 → (fI E_22.2.2.1 155 p).getD 0 = -1 := by decide +kernel
      exact f s hs
    · rw [S_hi (by decide)]; decide +kernel
    · rw [S_hi (by decide)]; decide +kernel
end STA
