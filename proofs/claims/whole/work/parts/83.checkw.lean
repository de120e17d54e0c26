/-! ===== the class checks a text: all of it ===== -/
def syR (K V : Nat → Nat) : Nat → SY → SY
  | 0, Y => Y
  | n + 1, Y => if Y.1.1 ≠ 0 ∨ K Y.1.2 = 35 then Y else syR K V n (syT K V Y)
theorem syT_1 {K V : Nat → Nat} {Y : SY} (h : K Y.1.2 < 11) : (syT K V Y).1 = tY K V (K Y.1.2) (Y.2.1 (K Y.1.2)) Y.1 := by
  unfold syT
  rw [if_pos h]
theorem syT_f {K V : Nat → Nat} {Y : SY} (h : ¬ K Y.1.2 < 11) : syT K V Y = ((1, Y.1.2), Y.2) := by
  unfold syT
  rw [if_neg h]
theorem pfx_law {K V : Nat → Nat} {k : Nat} {y : Nat × Nat} (hk : 9 ≤ k) : pfx K V k y = (lawQ K V y).y := by
  unfold pfx
  rw [if_neg (by omega), if_neg (by omega), if_neg (by omega), if_neg (by omega), if_neg (by omega), if_neg (by omega), if_neg (by omega), if_neg (by omega), if_neg (by omega)]
theorem begY_le {K : Nat → Nat} {k m : Nat} (y : Nat × Nat) : y.2 ≤ (begY K k m y).2 := by
  unfold begY
  split
  · exact Nat.le_refl _
  · exact tk_le _
theorem pfx_le0 {K V : Nat → Nat} {k : Nat} {y : Nat × Nat} (hw : yW K y) (h0 : (pfx K V k y).1 = 0) : y.2 ≤ (pfx K V k y).2 := by
  by_cases hk : k < 9
  · exact pfx_le hk y
  · rw [pfx_law (by omega)] at h0 ⊢
    have w : yW K (tk K 12 y) := tk_w hw (by decide)
    have hQ := (crun_w (V := V) 402 _ (CQI.init w)).1
    have h1 : totQ (lawQ K V y) + (tk K 12 y).2 ≤ (lawQ K V y).y.2 + (lawQ K V y).y.1 := hQ.2.2.2.1
    have h2 := tk_le (K := K) (k := 12) y
    omega
theorem tY_lt {K V : Nat → Nat} {k m : Nat} {y : Nat × Nat} (hw : yW K y) (hk : k < 11) (h0 : (tY K V k m y).1 = 0) : y.2 < (tY K V k m y).2 ∧ m ≠ cmx k ∧ tk K k y = (0, y.2 + 1) ∧ (pfx K V k (tk K k y)).1 = 0 ∧ tY K V k m y = (0, (pfx K V k (tk K k y)).2 + 1) ∧ K (pfx K V k (tk K k y)).2 = 22 := by
  have hm : m ≠ cmx k := fun e => by rw [tY_full e] at h0; cases h0
  have eb : begY K k m y = tk K k y := if_neg hm
  unfold tY at h0 ⊢
  rw [eb] at h0 ⊢
  obtain ⟨a1, a2, a3, a4⟩ := tk_0 h0
  have h1 : (tk K k y).1 = 0 := by
    rcases Nat.eq_zero_or_pos (tk K k y).1 with z | z
    · exact z
    · rw [pfx_f (by omega)] at a1; exact a1
  obtain ⟨b1, b2, b3, b4⟩ := tk_0 h1
  have h2 := pfx_le0 (V := V) (k := k) (tk_w (k := k) hw (by omega)) a1
  rw [b4] at h2
  rw [a4]
  refine ⟨?_, hm, b4, a1, rfl, a2⟩
  show y.2 < (pfx K V k (tk K k y)).2 + 1
  rw [b4]
  have h3 : y.2 + 1 ≤ (pfx K V k (0, y.2 + 1)).2 := h2
  omega
theorem syT_w {K V : Nat → Nat} {Y : SY} (h : yW K Y.1) (h0 : Y.1.1 = 0) : yW K (syT K V Y).1 ∧ cms (syT K V Y).1 < cms Y.1 := by
  by_cases hk : K Y.1.2 < 11
  · rw [syT_1 hk]
    have w := tY_w (V := V) (m := Y.2.1 (K Y.1.2)) h hk
    refine ⟨w, ?_⟩
    have h2 := h.2.1
    unfold cms
    rw [if_pos h0]
    by_cases c : (tY K V (K Y.1.2) (Y.2.1 (K Y.1.2)) Y.1).1 = 0
    · rw [if_pos c]
      have := (tY_lt h hk c).1
      omega
    · rw [if_neg c]; omega
  · rw [syT_f hk]
    exact ⟨⟨(by decide : (1 : Nat) ≤ 2), h.2⟩, cms_f h0 h.2.1 (by decide)⟩
theorem syR_done {K V : Nat → Nat} {n : Nat} {Y : SY} (h : syE K Y) : syR K V n Y = Y := by
  cases n with
  | zero => rfl
  | succ n => exact if_pos h
theorem syR_end {K V : Nat → Nat} : ∀ (n : Nat) (Y : SY), yW K Y.1 → cms Y.1 < n → syE K (syR K V n Y) := by
  intro n
  induction n with
  | zero => intro Y _ h; omega
  | succ n ih =>
    intro Y hw h
    by_cases d : Y.1.1 ≠ 0 ∨ K Y.1.2 = 35
    · rw [syR_done d]; exact d
    · have h0 : Y.1.1 = 0 := by omega
      have e : syR K V (n + 1) Y = syR K V n (syT K V Y) := if_neg d
      rw [e]
      obtain ⟨h1, h2⟩ := syT_w (V := V) hw h0
      exact ih _ h1 (by omega)
section CCW
variable {n L l : Nat} {c : Nat → Nat} {S : ST}
theorem c_check (hn : 30000 ≤ n) (hl : l = 35 ∨ l = 60) (hT : CTk c L S) (hC : CnT S) (h7 : S.1 l 7 = 0) (h5 : ∀ s, s < 2 → S.1 (l + 5) s = 0) : Ok (E_X2_check n S l) (fun r => r.1 = nI (syR (tkK c L) (tkV c L) 402 sy0).1.1 ∧ Df (XCk l) S r.2 ∧ CSY c L l (syR (tkK c L) (tkV c L) 402 sy0) r.2) := by
  have hms : ∀ y : Nat × Nat, cms y ≤ 401 := fun y => by unfold cms; split <;> omega
  unfold E_X2_check
  apply Ok.letsU
  apply Ok.letsU
  apply Ok.letsU
  generalize eS1 : upI (upI (fillS S 16 11 (0 : Int32)) 15 4 (0 : Int32)) 15 5 (0 : Int32) = S1
  have x15 : ∀ j, 3 ≤ j → XCk l 15 j = true := fun j hj => by
    have : ¬ j < 3 := by omega
    simp [XCk, this]
  have d0 : Df (XCk l) S (fillS S 16 11 (0 : Int32)) := ⟨rfl, fun a j hx => by
    have : a ≠ 16 := fun e => by subst e; simp [XCk] at hx
    unfold fillS
    rw [setC_ne this]⟩
  have d1 : Df (XCk l) S S1 := by rw [← eS1]; exact (d0.up (x15 4 (by decide))).up (x15 5 (by decide))
  have o1 : ∀ a j, a ≠ 15 → a ≠ 16 → S1.1 a j = S.1 a j := fun a j h1 h2 => by
    rw [← eS1, upI_at, if_neg (by omega), upI_at, if_neg (by omega)]
    unfold fillS
    rw [setC_ne h2]
  have hw0 : yW (tkK c L) sy0.1 := ⟨Nat.zero_le _, Nat.zero_le _, fun i hi => absurd hi (Nat.not_lt_zero i)⟩
  have hc0 : CSY c L l sy0 S1 := by
    refine ⟨⟨?_, ?_⟩, hw0, fun _ => ⟨fun k hk => ⟨?_, Nat.zero_le _⟩, 0, ?_, Nat.le_refl _, Nat.zero_le _, fun s hs => ⟨?_, rfl, fun i hi => absurd hi (Nat.not_lt_zero i)⟩⟩⟩
    · rw [← eS1, upI_at, if_neg (by omega), upI_at, if_pos ⟨rfl, rfl⟩]; rfl
    · rw [← eS1, upI_at, if_pos ⟨rfl, rfl⟩]; rfl
    · rw [← eS1, upI_at, if_neg (by omega), upI_at, if_neg (by omega)]
      unfold fillS
      rw [setC_eq, if_pos hk]; rfl
    · rw [o1 _ _ (by omega) (by omega)]; exact h7
    · rw [o1 _ _ (by omega) (by omega)]; exact h5 s hs
  refine bindW (fun d (s : Int32 × ST) => ∃ i Y, s.1 = nI i ∧ d = cms Y.1 ∧ i + cms Y.1 ≤ 401 ∧ syR (tkK c L) (tkV c L) (402 - i) Y = syR (tkK c L) (tkV c L) 402 sy0 ∧ Df (XCk l) S s.2 ∧ CSY c L l Y s.2) (cms sy0.1) (fun S' => ∃ Y, Y = syR (tkK c L) (tkV c L) 402 sy0 ∧ Df (XCk l) S S' ∧ CSY c L l Y S') (by have := hms sy0.1; omega) ⟨0, sy0, rfl, rfl, by have := hms sy0.1; omega, rfl, d1, hc0⟩ ?_ ?_
  · rintro d ⟨u, S2⟩ ⟨i, Y, rfl, rfl, hi, hR, d2, hY⟩
    dsimp only at d2 hY ⊢
    have hw := hY.2.1
    have hw1 := hw.1
    have hw2 := hw.2.1
    have hT2 := hT.ck hl d2
    have done : syE (tkK c L) Y → i ≤ 401 → ∃ Y, Y = syR (tkK c L) (tkV c L) 402 sy0 ∧ Df (XCk l) S S2 ∧ CSY c L l Y S2 := fun h _ => ⟨Y, by rw [← hR, syR_done h], d2, hY⟩
    by_cases h0 : Y.1.1 = 0
    case neg =>
      refine Ok.ifC (fun _ => Ok.inr (done (Or.inl h0) (by omega))) (fun _ => Ok.ifF (fun z => h0 ?_) (Ok.inr (done (Or.inl h0) (by omega))))
      rw [hY.1.2] at z
      exact (nI_eq (b := 0) (by omega) (by decide)).mp z
    have hc1 : 1 ≤ cms Y.1 := by unfold cms; rw [if_pos h0]; omega
    refine Ok.ifF (nI_nlt (a := 400) (by omega) (by omega)) ?_
    refine Ok.ifT (by rw [hY.1.2, h0]; rfl) ?_
    rw [hY.1.1]
    apply Ok.step (c_kind hT2 hw2)
    have hkl := tkK_le (c := c) (L := L) (j := Y.1.2)
    by_cases h35 : tkK c L Y.1.2 = 35
    · exact Ok.ifT (by rw [h35]; rfl) (Ok.inr (done (Or.inr h35) (by omega)))
    refine Ok.ifF (fun z => h35 ((nI_eq (b := 35) (by omega) (by decide)).mp z)) ?_
    obtain ⟨S3, e3, d3, hY3⟩ := c_checkTell (n := n) hn hl hT2 (hC.ck hl d2) hY h0
    apply Ok.step e3
    obtain ⟨g1, g2⟩ := syT_w (V := tkV c L) hw h0
    refine Ok.inl ⟨_, g2, i + 1, _, nI_1 _, rfl, by omega, ?_, d2.trans d3, hY3⟩
    rw [← hR, show 402 - i = (402 - (i + 1)) + 1 by omega]
    exact (if_neg (by omega)).symm
  · rintro S2 ⟨Y, rfl, d2, hY⟩
    exact Ok.ret ⟨hY.1.2, d2, hY⟩
end CCW
