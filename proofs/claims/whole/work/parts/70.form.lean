/-! ===== the form of a condition, token by token ===== -/
/-- a token of a kind is taken: the fault so far and the token -/
def tk (K : Nat → Nat) (k : Nat) (y : Nat × Nat) : Nat × Nat := if y.1 = 0 then (if K y.2 = k then (if y.2 < 400 then (0, y.2 + 1) else (2, y.2)) else (1, y.2)) else y
def tg (k : Nat) : Nat := if k = 13 then 1 else if k = 14 then 2 else if k = 15 then 3 else if k = 24 then 5 else if k = 25 then 5 else if k = 26 then 6 else if k = 27 then 6 else if 28 ≤ k ∧ k ≤ 31 then 4 else 0
/-- what comes out of a pile of operators, and what stays -/
def relO (t : Nat) : List Nat → List Nat
  | [] => []
  | k :: r => if t ≤ tg k then k :: relO t r else []
def relR (t : Nat) : List Nat → List Nat
  | [] => []
  | k :: r => if t ≤ tg k then relR t r else k :: r
abbrev CD : Type := List (Nat × Nat)
def opsC (s : List Nat) : CD := s.map (fun k => (k, 0))
def cod (V : Nat → Nat) (k i : Nat) : Nat × Nat := (k, if k = 21 then V i else 0)
def opn : List Nat → Nat
  | [] => 0
  | k :: r => if k = 32 then opn r + 1 else opn r
/-- a comparison: begun by or, nots, how, left, right -/
abbrev LT : Type := Bool × Nat × Nat × CD × CD
/-- how far a condition is: the fault and the token; behind an operand; begun; nots; the comparison and its left side; codes; what waits; begun by or; comparisons ahead; steps ahead; or waits; and waits -/
abbrev CQ : Type := (Nat × Nat) × Bool × Bool × Nat × Option (Nat × CD) × CD × List Nat × Bool × List LT × CD × Bool × Bool
abbrev mkQ (y : Nat × Nat) (b g : Bool) (ng : Nat) (lf : Option (Nat × CD)) (o : CD) (s : List Nat) (orr : Bool) (ls : List LT) (E : CD) (pO pA : Bool) : CQ := (y, b, g, ng, lf, o, s, orr, ls, E, pO, pA)
abbrev CQ.y (q : CQ) : Nat × Nat := q.1
abbrev CQ.b (q : CQ) : Bool := q.2.1
abbrev CQ.g (q : CQ) : Bool := q.2.2.1
abbrev CQ.ng (q : CQ) : Nat := q.2.2.2.1
abbrev CQ.lf (q : CQ) : Option (Nat × CD) := q.2.2.2.2.1
abbrev CQ.o (q : CQ) : CD := q.2.2.2.2.2.1
abbrev CQ.s (q : CQ) : List Nat := q.2.2.2.2.2.2.1
abbrev CQ.orr (q : CQ) : Bool := q.2.2.2.2.2.2.2.1
abbrev CQ.ls (q : CQ) : List LT := q.2.2.2.2.2.2.2.2.1
abbrev CQ.E (q : CQ) : CD := q.2.2.2.2.2.2.2.2.2.1
abbrev CQ.pO (q : CQ) : Bool := q.2.2.2.2.2.2.2.2.2.2.1
abbrev CQ.pA (q : CQ) : Bool := q.2.2.2.2.2.2.2.2.2.2.2
/-- steps of a comparison -/
def litS (how ng : Nat) (l r : CD) : CD := l ++ (r ++ ((28 + how, 0) :: List.replicate ng (15, 0)))
def andS (p : Bool) : CD := if p = true then [(14, 0)] else []
def orS (p : Bool) : CD := if p = true then [(13, 0)] else []
def cst (K V : Nat → Nat) (q : CQ) : CQ :=
  if q.b = false then
    if K q.y.2 = 15 ∧ q.g = false then mkQ (tk K (K q.y.2) q.y) q.b q.g (q.ng + 1) q.lf q.o q.s q.orr q.ls q.E q.pO q.pA
    else if K q.y.2 = 32 then (if opn q.s < 6 then mkQ (tk K (K q.y.2) q.y) q.b true q.ng q.lf q.o (32 :: q.s) q.orr q.ls q.E q.pO q.pA else mkQ (2, q.y.2) q.b q.g q.ng q.lf q.o q.s q.orr q.ls q.E q.pO q.pA)
    else if K q.y.2 = 21 ∨ (16 ≤ K q.y.2 ∧ K q.y.2 ≤ 19) then mkQ (tk K (K q.y.2) q.y) true true q.ng q.lf (q.o ++ [cod V (K q.y.2) q.y.2]) q.s q.orr q.ls q.E q.pO q.pA
    else mkQ (1, q.y.2) q.b q.g q.ng q.lf q.o q.s q.orr q.ls q.E q.pO q.pA
  else if K q.y.2 = 33 ∧ 0 < opn q.s then mkQ (tk K (K q.y.2) q.y) q.b q.g q.ng q.lf (q.o ++ opsC (relO 1 q.s)) (relR 1 q.s).tail q.orr q.ls q.E q.pO q.pA
  else if 24 ≤ K q.y.2 ∧ K q.y.2 ≤ 27 then mkQ (tk K (K q.y.2) q.y) false q.g q.ng q.lf (q.o ++ opsC (relO (tg (K q.y.2)) q.s)) (K q.y.2 :: relR (tg (K q.y.2)) q.s) q.orr q.ls q.E q.pO q.pA
  else match q.lf with
    | none => if (28 ≤ K q.y.2 ∧ K q.y.2 ≤ 31) ∧ opn q.s = 0 then mkQ (tk K (K q.y.2) q.y) false q.g q.ng (some (K q.y.2 - 28, q.o ++ opsC (relO 1 q.s))) [] [] q.orr q.ls q.E q.pO q.pA else mkQ (1, q.y.2) q.b q.g q.ng q.lf q.o q.s q.orr q.ls q.E q.pO q.pA
    | some (how, l) =>
      if K q.y.2 = 14 ∧ opn q.s = 0 then mkQ (tk K (K q.y.2) q.y) false false 0 none [] [] false (q.ls ++ [(q.orr, q.ng, how, l, q.o ++ opsC (relO 1 q.s))]) (q.E ++ (litS how q.ng l (q.o ++ opsC (relO 1 q.s)) ++ andS q.pA)) q.pO true
      else if K q.y.2 = 13 ∧ opn q.s = 0 then mkQ (tk K (K q.y.2) q.y) false false 0 none [] [] true (q.ls ++ [(q.orr, q.ng, how, l, q.o ++ opsC (relO 1 q.s))]) (q.E ++ (litS how q.ng l (q.o ++ opsC (relO 1 q.s)) ++ (andS q.pA ++ orS q.pO))) true false
      else mkQ (1, q.y.2) q.b q.g q.ng q.lf q.o q.s q.orr q.ls q.E q.pO q.pA
/-- the condition ends here, or has a fault -/
def cdn (K : Nat → Nat) (q : CQ) : Prop := q.y.1 ≠ 0 ∨ (K q.y.2 = 22 ∧ q.b = true ∧ opn q.s = 0 ∧ q.lf ≠ none)
/-- the comparison that ends with the condition; all its steps -/
def cfL (q : CQ) : List LT := match q.lf with
  | none => q.ls
  | some (how, l) => q.ls ++ [(q.orr, q.ng, how, l, q.o ++ opsC (relO 1 q.s))]
def cfE (q : CQ) : CD := match q.lf with
  | none => q.E
  | some (how, l) => q.E ++ (litS how q.ng l (q.o ++ opsC (relO 1 q.s)) ++ (andS q.pA ++ orS q.pO))
def cit (K V : Nat → Nat) : Nat → CQ → CQ
  | 0, q => q
  | n + 1, q => cit K V n (cst K V q)
def Rch (K V : Nat → Nat) (a b : CQ) : Prop := ∃ n, cit K V n a = b ∧ ∀ i, i < n → ¬ cdn K (cit K V i a)
theorem Rch.rf {K V : Nat → Nat} (q : CQ) : Rch K V q q := ⟨0, rfl, fun i h => absurd h (Nat.not_lt_zero i)⟩
theorem Rch.st {K V : Nat → Nat} {q q' : CQ} (h : ¬ cdn K q) (h2 : Rch K V (cst K V q) q') : Rch K V q q' := by
  obtain ⟨n, h3, h4⟩ := h2
  refine ⟨n + 1, h3, fun i hi => ?_⟩
  cases i with
  | zero => exact h
  | succ i => exact h4 i (by omega)
theorem Rch.tr {K V : Nat → Nat} : ∀ {a b c : CQ}, Rch K V a b → Rch K V b c → Rch K V a c := by
  rintro a b c ⟨n, h1, h2⟩ h3
  induction n generalizing a with
  | zero => have : a = b := h1
            subst this; exact h3
  | succ n ih => exact Rch.st (h2 0 (by omega)) (ih h1 (fun i hi => h2 (i + 1) (by omega)))
theorem Rch.one {K V : Nat → Nat} {q : CQ} (h : ¬ cdn K q) : Rch K V q (cst K V q) := Rch.st h (Rch.rf _)
/-- where it stops is one -/
theorem Rch.un {K V : Nat → Nat} {q a b : CQ} (h : Rch K V q a) (h2 : Rch K V q b) (da : cdn K a) (db : cdn K b) : a = b := by
  obtain ⟨n, h1, h3⟩ := h
  obtain ⟨m, h4, h5⟩ := h2
  subst h1 h4
  rcases Nat.lt_trichotomy n m with z | z | z
  · exact absurd da (h5 n z)
  · rw [z]
  · exact absurd db (h3 m z)
abbrev cInit (y : Nat × Nat) : CQ := mkQ y false false 0 none [] [] true [] [] false false
/-! the pile of operators -/
def tpw : List Nat → Nat
  | [] => 0
  | k :: _ => if k = 32 then 0 else tg k - 4
theorem tpw_cons (k : Nat) (r : List Nat) : tpw (k :: r) = if k = 32 then 0 else tg k - 4 := rfl
def SK : List Nat → Prop
  | [] => True
  | k :: r => SK r ∧ (k = 32 ∨ ((24 ≤ k ∧ k ≤ 27) ∧ tpw r < tg k - 4))
theorem tg_op {k : Nat} (h : 24 ≤ k ∧ k ≤ 27) : tg k = 5 ∨ tg k = 6 := by
  have : ∀ j : Fin 4, tg (j.val + 24) = 5 ∨ tg (j.val + 24) = 6 := by decide
  have h2 := this ⟨k - 24, by omega⟩
  dsimp only at h2
  rw [show k - 24 + 24 = k by omega] at h2
  exact h2
theorem tpw_le {s : List Nat} (h : SK s) : tpw s ≤ 2 := by
  cases s with
  | nil => decide
  | cons k r =>
    rw [tpw_cons]
    split
    · decide
    · rcases h.2 with z | z
      · omega
      · have := tg_op z.1; omega
theorem SK_len {s : List Nat} (h : SK s) : s.length ≤ 3 * opn s + tpw s := by
  induction s with
  | nil => exact Nat.le_refl _
  | cons k r ih =>
    have h1 := ih h.1
    have h2 := tpw_le h.1
    rw [List.length_cons]
    by_cases e : k = 32
    · have e1 : opn (k :: r) = opn r + 1 := by rw [opn, if_pos e]
      have e2 : tpw (k :: r) = 0 := by rw [tpw_cons, if_pos e]
      omega
    · have e1 : opn (k :: r) = opn r := by rw [opn, if_neg e]
      have e2 : tpw (k :: r) = tg k - 4 := by rw [tpw_cons, if_neg e]
      rcases h.2 with z | z
      · omega
      · omega
theorem relR_SK {t : Nat} {s : List Nat} (h : SK s) : SK (relR t s) := by
  induction s with
  | nil => exact h
  | cons k r ih =>
    rw [relR]
    split
    · exact ih h.1
    · exact h
theorem rel_app (t : Nat) (s : List Nat) : relO t s ++ relR t s = s := by
  induction s with
  | nil => rfl
  | cons k r ih =>
    rw [relO, relR]
    split
    · rw [List.cons_append, ih]
    · rfl
theorem rel_len (t : Nat) (s : List Nat) : (relO t s).length + (relR t s).length = s.length := by
  rw [← List.length_append, rel_app]
theorem relO_nop {t : Nat} (ht : 1 ≤ t) (s : List Nat) : ∀ k ∈ relO t s, k ≠ 32 := by
  induction s with
  | nil => intro k hk; cases hk
  | cons k r ih =>
    intro j hj
    rw [relO] at hj
    split at hj
    · rename_i h
      cases hj with
      | head => intro e; subst e; have : tg 32 = 0 := by decide
                omega
      | tail _ hj => exact ih j hj
    · cases hj
theorem rel_opn {t : Nat} (ht : 1 ≤ t) (s : List Nat) : opn (relR t s) = opn s := by
  induction s with
  | nil => rfl
  | cons k r ih =>
    rw [relR]
    split
    · rename_i h
      have e : k ≠ 32 := by intro e; subst e; have : tg 32 = 0 := by decide
                            omega
      rw [ih, opn, if_neg e]
    · rfl
/-- with nothing open all comes out -/
theorem rel_all {s : List Nat} (h : SK s) (h0 : opn s = 0) {t : Nat} (ht : t ≤ 5) : relO t s = s ∧ relR t s = [] := by
  induction s with
  | nil => exact ⟨rfl, rfl⟩
  | cons k r ih =>
    have e : k ≠ 32 := by
      intro e
      rw [opn, if_pos e] at h0
      omega
    rw [opn, if_neg e] at h0
    obtain ⟨h1, h2⟩ := ih h.1 h0
    have h3 : t ≤ tg k := by
      rcases h.2 with z | z
      · exact absurd z e
      · have := tg_op z.1; omega
    rw [relO, relR, if_pos h3, if_pos h3, h1, h2]
    exact ⟨rfl, rfl⟩
/-- with something open the next that stays is it -/
theorem rel_open {s : List Nat} (h : SK s) (h0 : 0 < opn s) : ∃ r, relR 1 s = 32 :: r ∧ SK r ∧ opn s = opn r + 1 := by
  induction s with
  | nil => exact absurd h0 (by decide)
  | cons k r ih =>
    by_cases e : k = 32
    · subst e
      refine ⟨r, ?_, h.1, ?_⟩
      · rw [relR, if_neg (by decide)]
      · rw [opn, if_pos rfl]
    · rw [opn, if_neg e] at h0 ⊢
      obtain ⟨r', h1, h2, h3⟩ := ih h.1 h0
      have h4 : 1 ≤ tg k := by
        rcases h.2 with z | z
        · exact absurd z e
        · have := tg_op z.1; omega
      exact ⟨r', by rw [relR, if_pos h4]; exact h1, h2, h3⟩
theorem rel_tpw {s : List Nat} (h : SK s) {t : Nat} (ht : 5 ≤ t) (ht2 : t ≤ 6) : tpw (relR t s) < t - 4 := by
  induction s with
  | nil => show 0 < t - 4; omega
  | cons k r ih =>
    rw [relR]
    split
    · exact ih h.1
    · rename_i h3
      rw [tpw_cons]
      split
      · omega
      · rcases h.2 with z | z
        · omega
        · have := tg_op z.1; omega
/-! piles of values -/
def wfC (m : Nat) : CD → Nat → Nat → Prop
  | [], d, e => d = e
  | (k, _) :: r, d, e => if k < 22 then d + 1 ≤ m ∧ wfC m r (d + 1) e else (24 ≤ k ∧ k ≤ 27) ∧ 2 ≤ d ∧ wfC m r (d - 1) e
theorem wfC_app {m : Nat} {a b : CD} : ∀ {d e f : Nat}, wfC m a d e → wfC m b e f → wfC m (a ++ b) d f := by
  induction a with
  | nil => intro d e f h1 h2; have : d = e := h1; subst this; exact h2
  | cons x r ih =>
    intro d e f h1 h2
    obtain ⟨k, v⟩ := x
    rw [List.cons_append]
    unfold wfC at h1 ⊢
    split
    · rename_i c
      rw [if_pos c] at h1
      exact ⟨h1.1, ih h1.2 h2⟩
    · rename_i c
      rw [if_neg c] at h1
      exact ⟨h1.1, h1.2.1, ih h1.2.2 h2⟩
theorem wfC_ops {m : Nat} : ∀ {s : List Nat} {d : Nat}, (∀ k ∈ s, 24 ≤ k ∧ k ≤ 27) → wfC m (opsC s) (d + 1 + s.length) (d + 1) := by
  intro s
  induction s with
  | nil => intro d _; rfl
  | cons k r ih =>
    intro d h
    have hk := h k (List.mem_cons_self ..)
    show wfC m ((k, 0) :: opsC r) _ _
    unfold wfC
    rw [if_neg (by omega)]
    refine ⟨hk, by rw [List.length_cons]; omega, ?_⟩
    rw [List.length_cons, show d + 1 + (r.length + 1) - 1 = d + 1 + r.length by omega]
    exact ih (fun j hj => h j (List.mem_cons_of_mem _ hj))
theorem SK_mem {s : List Nat} (h : SK s) : ∀ k ∈ s, k = 32 ∨ (24 ≤ k ∧ k ≤ 27) := by
  induction s with
  | nil => intro k hk; cases hk
  | cons k r ih =>
    intro j hj
    cases hj with
    | head => rcases h.2 with z | z
              · exact Or.inl z
              · exact Or.inr z.1
    | tail _ hj => exact ih h.1 j hj
theorem relO_mem {t : Nat} {s : List Nat} : ∀ k ∈ relO t s, k ∈ s := by
  intro k hk
  rw [← rel_app t s]
  exact List.mem_append_left _ hk
theorem relO_ops {t : Nat} (ht : 1 ≤ t) {s : List Nat} (h : SK s) : ∀ k ∈ relO t s, 24 ≤ k ∧ k ≤ 27 := fun k hk => by
  rcases SK_mem h k (relO_mem k hk) with z | z
  · exact absurd z (relO_nop ht s k hk)
  · exact z
