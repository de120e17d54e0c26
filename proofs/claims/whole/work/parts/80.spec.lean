/-! ===== a text, told: the form ===== -/
def cdnB (K : Nat → Nat) (q : CQ) : Bool := (q.y.1 != 0) || (K q.y.2 == 22 && (q.b && (opn q.s == 0 && q.lf.isSome)))
theorem cdnB_iff {K : Nat → Nat} {q : CQ} : cdnB K q = true ↔ cdn K q := by
  unfold cdnB cdn
  simp only [Bool.or_eq_true, bne_iff_ne, Bool.and_eq_true, beq_iff_eq, Option.isSome_iff_ne_none]
def crun (K V : Nat → Nat) : Nat → CQ → CQ
  | 0, q => q
  | n + 1, q => if cdnB K q = true then q else crun K V n (cst K V q)
theorem crun_of {K V : Nat → Nat} {b0 : Nat} {q q' : CQ} (hQ : CQI K b0 q) (h : Rch K V q q') (d : cdn K q') : crun K V 402 q = q' := by
  obtain ⟨m, h1, h2⟩ := h
  have hm : ∀ (m : Nat) (q : CQ), CQI K b0 q → (∀ i, i < m → ¬ cdn K (cit K V i q)) → m ≤ cms q.y := by
    intro m
    induction m with
    | zero => intro q _ _; exact Nat.zero_le _
    | succ m ih =>
      intro q hQ h
      obtain ⟨hQ', hl⟩ := hQ.st (V := V) (h 0 (by omega))
      have := ih _ hQ' (fun i hi => h (i + 1) (by omega))
      omega
  have h3 : m ≤ 401 := by
    have := hm m q hQ h2
    have h4 : cms q.y ≤ 401 := by unfold cms; split <;> omega
    omega
  have key : ∀ (m n : Nat) (q : CQ), m < n → cit K V m q = q' → (∀ i, i < m → ¬ cdn K (cit K V i q)) → crun K V n q = q' := by
    intro m
    induction m with
    | zero =>
      intro n q hn e _
      have e' : q = q' := e
      subst e'
      cases n with
      | zero => omega
      | succ n => rw [crun, if_pos (cdnB_iff.mpr d)]
    | succ m ih =>
      intro n q hn e hi
      cases n with
      | zero => omega
      | succ n =>
        have h0 : ¬ cdn K q := hi 0 (by omega)
        rw [crun, if_neg (fun z => h0 (cdnB_iff.mp z))]
        exact ih n _ (by omega) e (fun i h => hi (i + 1) (by omega))
  exact key m 402 q (by omega) h1 h2
def cmx (k : Nat) : Nat := ([6, 10, 6, 8, 20, 12, 12, 6, 4, 4, 4] : List Nat).getD k 0
/-- further names of a task -/
def fur (K : Nat → Nat) : Nat → Nat × Nat → Nat × Nat
  | 0, y => y
  | n + 1, y => if y.1 = 0 ∧ K y.2 = 23 then fur K n (tk K 20 (tk K 23 y)) else y
def lawQ (K V : Nat → Nat) (y : Nat × Nat) : CQ := crun K V 402 (cInit (tk K 12 y))
def birY (K : Nat → Nat) (a : Nat × Nat) : Nat × Nat := if a.1 = 0 ∧ K a.2 = 11 then tk K 21 (tk K 11 a) else a
/-- behind the word that begins a tell, but the semicolon -/
def pfx (K V : Nat → Nat) (k : Nat) (y : Nat × Nat) : Nat × Nat :=
  if k = 0 then tk K 20 y
  else if k = 1 then birY K (tk K 21 (tk K 20 y))
  else if k = 2 then tk K 21 (tk K 20 y)
  else if k = 3 then tk K 20 (tk K 20 y)
  else if k = 4 then tk K 21 (tk K 21 (tk K 20 (tk K 20 y)))
  else if k = 5 then tk K 20 (tk K 20 y)
  else if k = 6 then tk K 21 (tk K 20 (tk K 20 y))
  else if k = 7 then tk K 21 (tk K 20 (tk K 20 y))
  else if k = 8 then fur K 401 (tk K 20 (tk K 20 y))
  else (lawQ K V y).y
/-- the word that begins a tell, of which there are m -/
def begY (K : Nat → Nat) (k m : Nat) (y : Nat × Nat) : Nat × Nat := if m = cmx k then (2, y.2) else tk K k y
/-- where a tell of a kind ends -/
def tY (K V : Nat → Nat) (k m : Nat) (y : Nat × Nat) : Nat × Nat := tk K 22 (pfx K V k (begY K k m y))
theorem fur_f {K : Nat → Nat} {n : Nat} {y : Nat × Nat} (h : y.1 ≠ 0) : fur K n y = y := by
  cases n with
  | zero => rfl
  | succ n => rw [fur, if_neg (fun z => h z.1)]
theorem fur_w {K : Nat → Nat} : ∀ (n : Nat) {y : Nat × Nat}, yW K y → yW K (fur K n y) := by
  intro n
  induction n with
  | zero => intro y h; exact h
  | succ n ih =>
    intro y h
    rw [fur]
    split
    · exact ih (tk_w (tk_w h (by decide)) (by decide))
    · exact h
theorem begY_w {K : Nat → Nat} {k m : Nat} {y : Nat × Nat} (h : yW K y) (hk : k < 11) : yW K (begY K k m y) := by
  unfold begY
  split
  · exact ⟨Nat.le_refl 2, h.2⟩
  · exact tk_w h (by omega)
theorem tk_le {K : Nat → Nat} {k : Nat} (y : Nat × Nat) : y.2 ≤ (tk K k y).2 := by
  unfold tk
  repeat' split
  all_goals first | exact Nat.le_refl _ | exact Nat.le_succ _
/-- a token that was taken was of its kind -/
theorem tk_0 {K : Nat → Nat} {k : Nat} {y : Nat × Nat} (h : (tk K k y).1 = 0) : y.1 = 0 ∧ K y.2 = k ∧ y.2 < 400 ∧ tk K k y = (0, y.2 + 1) := by
  by_cases c0 : y.1 = 0
  case neg => rw [tk_f c0] at h; exact absurd h c0
  by_cases c1 : K y.2 = k
  case neg => rw [tk_n c0 c1] at h; cases h
  rw [tk_g c0 c1] at h ⊢
  by_cases c2 : y.2 < 400
  · rw [if_pos c2]; exact ⟨c0, c1, c2, rfl⟩
  · rw [if_neg c2] at h; cases h
theorem crun_w {K V : Nat → Nat} {b0 : Nat} : ∀ (n : Nat) (q : CQ), CQI K b0 q → CQI K b0 (crun K V n q) ∧ Rch K V q (crun K V n q) := by
  intro n
  induction n with
  | zero => intro q h; exact ⟨h, Rch.rf _⟩
  | succ n ih =>
    intro q h
    rw [crun]
    by_cases c : cdnB K q = true
    · rw [if_pos c]; exact ⟨h, Rch.rf _⟩
    · rw [if_neg c]
      have nd : ¬ cdn K q := fun z => c (cdnB_iff.mpr z)
      obtain ⟨h1, h2⟩ := ih _ (h.st (V := V) nd).1
      exact ⟨h1, Rch.st nd h2⟩
theorem pfx_w {K V : Nat → Nat} {k : Nat} {y : Nat × Nat} (h : yW K y) : yW K (pfx K V k y) := by
  have a : ∀ {y : Nat × Nat} {k : Nat}, k < 35 → yW K y → yW K (tk K k y) := fun hk h => tk_w h (by omega)
  unfold pfx
  repeat' split
  · exact a (by decide) h
  · unfold birY
    split
    · exact a (by decide) (a (by decide) (a (by decide) (a (by decide) h)))
    · exact a (by decide) (a (by decide) h)
  · exact a (by decide) (a (by decide) h)
  · exact a (by decide) (a (by decide) h)
  · exact a (by decide) (a (by decide) (a (by decide) (a (by decide) h)))
  · exact a (by decide) (a (by decide) h)
  · exact a (by decide) (a (by decide) (a (by decide) h))
  · exact a (by decide) (a (by decide) (a (by decide) h))
  · exact fur_w _ (a (by decide) (a (by decide) h))
  · exact (crun_w 402 _ (CQI.init (a (by decide) h))).1.1
theorem tY_w {K V : Nat → Nat} {k m : Nat} {y : Nat × Nat} (h : yW K y) (hk : k < 11) : yW K (tY K V k m y) := tk_w (pfx_w (begY_w h hk)) (by decide)
/-- a text so far: the fault and the token, how many of each, the laws (by the reference, by the class) -/
abbrev SY : Type := (Nat × Nat) × (Nat → Nat) × (Nat → List (List LT)) × (Nat → List CD)
def upN {α : Type} (f : Nat → α) (k : Nat) (v : α) : Nat → α := fun j => if j = k then v else f j
theorem upN_s {α : Type} {f : Nat → α} {k : Nat} {v : α} : upN f k v k = v := if_pos rfl
theorem upN_n {α : Type} {f : Nat → α} {k j : Nat} {v : α} (h : j ≠ k) : upN f k v j = f j := if_neg h
/-- one tell -/
def syT (K V : Nat → Nat) (Y : SY) : SY :=
  if K Y.1.2 < 11 then
    (tY K V (K Y.1.2) (Y.2.1 (K Y.1.2)) Y.1,
     upN Y.2.1 (K Y.1.2) (Y.2.1 (K Y.1.2) + 1),
     if 9 ≤ K Y.1.2 then upN Y.2.2.1 (K Y.1.2 - 9) (Y.2.2.1 (K Y.1.2 - 9) ++ [cfL (lawQ K V (begY K (K Y.1.2) (Y.2.1 (K Y.1.2)) Y.1))]) else Y.2.2.1,
     if 9 ≤ K Y.1.2 then upN Y.2.2.2 (K Y.1.2 - 9) (Y.2.2.2 (K Y.1.2 - 9) ++ [cfE (lawQ K V (begY K (K Y.1.2) (Y.2.1 (K Y.1.2)) Y.1))]) else Y.2.2.2)
  else ((1, Y.1.2), Y.2)
def sy0 : SY := ((0, 0), (fun _ => 0), (fun _ => []), (fun _ => []))
/-- the text is told, or has a fault -/
def syE (K : Nat → Nat) (Y : SY) : Prop := Y.1.1 ≠ 0 ∨ K Y.1.2 = 35
