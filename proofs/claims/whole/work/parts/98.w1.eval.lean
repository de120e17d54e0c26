/-! ===== laws: what steps and codes come to ===== -/
def opV (k : Nat) (a b : Int32) : Int32 := if k = 24 then a + b else if k = 25 then a - b else if k = 26 then a * b else if b = 0 then 0 else a / b
def cmV (h : Nat) (a b : Int32) : Bool := if h = 0 then decide (a = b) else if h = 1 then decide (a ≠ b) else if h = 2 then decide (a < b) else decide (a ≤ b)
def cbV (k : Nat) (a b : Int32) : Int32 := if k = 13 then a ||| b else if k = 14 then a &&& b else if k ≤ 27 then opV k a b else bI (cmV (k - 28) a b)
/-- one step of the class: the pile, the top first, and a division by 0 -/
def stp (v : Nat → Int32) (x : Nat × Nat) (p : List Int32 × Bool) : List Int32 × Bool :=
  if x.1 = 21 then (nI x.2 :: p.1, p.2) else if 16 ≤ x.1 ∧ x.1 ≤ 19 then (v (x.1 - 16) :: p.1, p.2)
  else if x.1 = 15 then (match p.1 with
    | a :: t => (((1 : Int32) - a) :: t, p.2)
    | [] => p)
  else match p.1 with
    | y :: a :: t => if 28 ≤ x.1 then ((if p.2 = true then 0 else cbV x.1 a y) :: t, false) else (cbV x.1 a y :: t, p.2 || (x.1 == 27 && y == 0))
    | _ => p
def exC (v : Nat → Int32) (E : CD) (p : List Int32 × Bool) : List Int32 × Bool := E.foldl (fun p x => stp v x p) p
theorem exC_app {v : Nat → Int32} {A B : CD} {p : List Int32 × Bool} : exC v (A ++ B) p = exC v B (exC v A p) := List.foldl_append ..
theorem exC_nil {v : Nat → Int32} {p : List Int32 × Bool} : exC v [] p = p := rfl
theorem exC_cons {v : Nat → Int32} {x : Nat × Nat} {A : CD} {p : List Int32 × Bool} : exC v (x :: A) p = exC v A (stp v x p) := rfl
/-- codes of the reference; none: a division by 0 -/
def evO (v : Nat → Int32) (x : Nat × Nat) (st : List Int32) : Option (List Int32) := if x.1 = 21 then some (nI x.2 :: st) else if x.1 < 22 then some (v (x.1 - 16) :: st) else match st with
    | y :: a :: t => if x.1 = 27 ∧ y = 0 then none else some (opV x.1 a y :: t)
    | _ => none
def evR (v : Nat → Int32) : CD → List Int32 → Option (List Int32)
  | [], st => some st
  | x :: r, st => (evO v x st).bind (evR v r)
def tvO (v : Nat → Int32) (A : CD) : Option Int32 := (evR v A []).bind List.head?
/-- units and reckoning alone -/
def uC (A : CD) : Prop := ∀ x ∈ A, x.1 = 21 ∨ (16 ≤ x.1 ∧ x.1 ≤ 19) ∨ (24 ≤ x.1 ∧ x.1 ≤ 27)
theorem uC_app {A B : CD} (h : uC A) (h2 : uC B) : uC (A ++ B) := fun x hx => by
  rcases List.mem_append.mp hx with z | z
  · exact h x z
  · exact h2 x z
theorem uC_ops {s : List Nat} (h : ∀ k ∈ s, 24 ≤ k ∧ k ≤ 27) : uC (opsC s) := fun x hx => by
  unfold opsC at hx
  obtain ⟨k, hk, e⟩ := List.mem_map.mp hx
  rw [← e]
  exact Or.inr (Or.inr (h k hk))
theorem stp_unit {v : Nat → Int32} {x : Nat × Nat} {st : List Int32} {z : Bool} (h : x.1 = 21 ∨ (16 ≤ x.1 ∧ x.1 ≤ 19)) : ∃ u, stp v x (st, z) = (u :: st, z) ∧ ∀ r, evR v (x :: r) st = evR v r (u :: st) := by
  by_cases c : x.1 = 21
  · refine ⟨nI x.2, ?_, fun r => ?_⟩
    · unfold stp; rw [if_pos c]
    · show (evO v x st).bind (evR v r) = _
      unfold evO; rw [if_pos c]; rfl
  · have h2 : 16 ≤ x.1 ∧ x.1 ≤ 19 := by omega
    refine ⟨v (x.1 - 16), ?_, fun r => ?_⟩
    · unfold stp; rw [if_neg c, if_pos h2]
    · show (evO v x st).bind (evR v r) = _
      unfold evO; rw [if_neg c, if_pos (by omega)]; rfl
theorem stp_op {v : Nat → Int32} {x : Nat × Nat} {y a : Int32} {t : List Int32} {z : Bool} (h : 24 ≤ x.1 ∧ x.1 ≤ 27) : stp v x (y :: a :: t, z) = (opV x.1 a y :: t, z || (x.1 == 27 && y == 0)) := by
  unfold stp
  rw [if_neg (by omega), if_neg (by omega), if_neg (by omega)]
  dsimp only
  rw [if_neg (by omega)]
  unfold cbV
  rw [if_neg (by omega), if_neg (by omega), if_pos (by omega)]
theorem ex_any {v : Nat → Int32} {m e : Nat} {base : List Int32} : ∀ (A : CD) (st : List Int32), uC A → wfC m A st.length e → ∃ st', st'.length = e ∧ exC v A (st ++ base, true) = (st' ++ base, true) := by
  intro A
  induction A with
  | nil => intro st _ h; exact ⟨st, h, rfl⟩
  | cons x r ih =>
    intro st hu h
    obtain ⟨k, w⟩ := x
    have hx := hu (k, w) (List.mem_cons_self ..)
    have hr : uC r := fun y hy => hu y (List.mem_cons_of_mem _ hy)
    unfold wfC at h
    rw [exC_cons]
    by_cases c : k < 22
    · rw [if_pos c] at h
      obtain ⟨u, e1, _⟩ := stp_unit (v := v) (x := (k, w)) (st := st ++ base) (z := true) (by dsimp only at hx ⊢; omega)
      rw [e1]
      exact ih (u :: st) hr h.2
    · rw [if_neg c] at h
      match st, h with
      | [], h => exact absurd h.2.1 (by decide)
      | [_], h => exact absurd h.2.1 (by simp)
      | y :: a :: t, h =>
        show ∃ st', _ ∧ exC v r (stp v (k, w) (y :: a :: (t ++ base), true)) = _
        rw [stp_op h.1, Bool.true_or]
        exact ih (opV k a y :: t) hr h.2.2
theorem ex_ev {v : Nat → Int32} {m e : Nat} {base : List Int32} {z : Bool} : ∀ (A : CD) (st : List Int32), uC A → wfC m A st.length e → (∀ st', evR v A st = some st' → exC v A (st ++ base, z) = (st' ++ base, z) ∧ st'.length = e) ∧ (evR v A st = none → ∃ st', st'.length = e ∧ exC v A (st ++ base, z) = (st' ++ base, true)) := by
  intro A
  induction A with
  | nil =>
    intro st _ h
    refine ⟨fun st' h' => ?_, (fun h' => by cases h')⟩
    rw [← Option.some.inj h']
    exact ⟨rfl, h⟩
  | cons x r ih =>
    intro st hu h
    obtain ⟨k, w⟩ := x
    have hx := hu (k, w) (List.mem_cons_self ..)
    have hr : uC r := fun y hy => hu y (List.mem_cons_of_mem _ hy)
    unfold wfC at h
    rw [exC_cons]
    by_cases c : k < 22
    · rw [if_pos c] at h
      have hk : k = 21 ∨ (16 ≤ k ∧ k ≤ 19) := by dsimp only at hx; omega
      obtain ⟨u, e1, e2⟩ := stp_unit (v := v) (x := (k, w)) (st := st) (z := z) hk
      obtain ⟨u', e1', e2'⟩ := stp_unit (v := v) (x := (k, w)) (st := st ++ base) (z := z) hk
      have : u' = u := by
        unfold stp at e1 e1'
        by_cases c21 : k = 21
        · rw [if_pos c21] at e1 e1'
          rw [← (List.cons.inj (Prod.mk.inj e1).1).1, ← (List.cons.inj (Prod.mk.inj e1').1).1]
        · rw [if_neg c21, if_pos (by dsimp only; omega)] at e1 e1'
          rw [← (List.cons.inj (Prod.mk.inj e1).1).1, ← (List.cons.inj (Prod.mk.inj e1').1).1]
      rw [e1', e2, this]
      exact ih (u :: st) hr h.2
    · rw [if_neg c] at h
      match st, h with
      | [], h => exact absurd h.2.1 (by decide)
      | [_], h => exact absurd h.2.1 (by simp)
      | y :: a :: t, h =>
        have es : stp v (k, w) (y :: a :: (t ++ base), z) = (opV k a y :: (t ++ base), z || (k == 27 && y == 0)) := stp_op h.1
        show (∀ st', evR v ((k, w) :: r) (y :: a :: t) = some st' → exC v r (stp v (k, w) (y :: a :: (t ++ base), z)) = (st' ++ base, z) ∧ st'.length = e) ∧ (evR v ((k, w) :: r) (y :: a :: t) = none → ∃ st', st'.length = e ∧ exC v r (stp v (k, w) (y :: a :: (t ++ base), z)) = (st' ++ base, true))
        have eo : evO v (k, w) (y :: a :: t) = if k = 27 ∧ y = 0 then none else some (opV k a y :: t) := by
          unfold evO
          rw [if_neg (by dsimp only; omega), if_neg (by dsimp only; omega)]
        rw [es, evR, eo]
        by_cases c0 : k = 27 ∧ y = 0
        · rw [if_pos c0]
          have eb : (k == 27 && y == 0) = true := by simp [c0.1, c0.2]
          rw [eb, Bool.or_true]
          refine ⟨(fun st' h' => by cases h'), fun _ => ?_⟩
          exact ex_any r (opV k a y :: t) hr h.2.2
        · rw [if_neg c0]
          have eb : (k == 27 && y == 0) = false := by
            by_cases c1 : k = 27
            · have : ¬ y = 0 := fun q => c0 ⟨c1, q⟩
              simp [this]
            · simp [c1]
          rw [eb, Bool.or_false]
          exact ih (opV k a y :: t) hr h.2.2
theorem ex_tv {v : Nat → Int32} {A : CD} {base : List Int32} {z : Bool} (hu : uC A) (hw : wfC 16 A 0 1) : (∀ a, tvO v A = some a → exC v A (base, z) = (a :: base, z)) ∧ (tvO v A = none → ∃ a, exC v A (base, z) = (a :: base, true)) := by
  obtain ⟨h1, h2⟩ := ex_ev (v := v) (m := 16) (e := 1) (base := base) (z := z) A [] hu hw
  unfold tvO
  cases h : evR v A [] with
  | none =>
    refine ⟨(fun a h' => by cases h'), fun _ => ?_⟩
    obtain ⟨st', e1, e2⟩ := h2 h
    match st', e1 with
    | [a], _ => exact ⟨a, e2⟩
  | some st =>
    obtain ⟨e1, e2⟩ := h1 st h
    match st, e2 with
    | [a], _ =>
      refine ⟨fun b h' => ?_, (fun h' => by cases h')⟩
      have : a = b := Option.some.inj h'
      rw [← this]; exact e1
/-- a comparison, a law -/
def cpV (v : Nat → Int32) (h : Nat) (A B : CD) : Bool := match tvO v A, tvO v B with
  | some a, some b => cmV h a b
  | _, _ => false
def litV (v : Nat → Int32) (x : LT) : Bool := cpV v x.2.2.1 x.2.2.2.1 x.2.2.2.2 != oddI x.2.1
def grS (v : Nat → Int32) (x : LT) (p : Bool × Bool) : Bool × Bool := if x.1 = true then (p.1 || p.2, litV v x) else (p.1, p.2 && litV v x)
def gr (v : Nat → Int32) (ls : List LT) (p : Bool × Bool) : Bool × Bool := ls.foldl (fun p x => grS v x p) p
def lawV (v : Nat → Int32) (ls : List LT) : Bool := (gr v ls (false, false)).1 || (gr v ls (false, false)).2
theorem gr_app {v : Nat → Int32} {a : List LT} {x : LT} {p : Bool × Bool} : gr v (a ++ [x]) p = grS v x (gr v a p) := by unfold gr; rw [List.foldl_append]; rfl
theorem oddI_s (m : Nat) : oddI (m + 1) = !oddI m := by
  unfold oddI
  rcases Nat.mod_two_eq_zero_or_one m with h | h
  · have : (m + 1) % 2 = 1 := by omega
    rw [h, this]; rfl
  · have : (m + 1) % 2 = 0 := by omega
    rw [h, this]; rfl
theorem ex_not {v : Nat → Int32} {t : List Int32} {z : Bool} : ∀ (m : Nat) (b : Bool), exC v (List.replicate m (15, 0)) (bI b :: t, z) = (bI (b != oddI m) :: t, z) := by
  intro m
  induction m with
  | zero => intro b; cases b <;> rfl
  | succ m ih =>
    intro b
    rw [List.replicate_succ, exC_cons]
    have e : stp v (15, 0) (bI b :: t, z) = (bI (!b) :: t, z) := by cases b <;> rfl
    rw [e, ih, oddI_s]
    cases b <;> cases oddI m <;> rfl
theorem ex_lit {v : Nat → Int32} {h ng : Nat} {A B : CD} {base : List Int32} (hh : h ≤ 3) (hA : uC A) (hB : uC B) (wA : wfC 16 A 0 1) (wB : wfC 16 B 0 1) : exC v (litS h ng A B) (base, false) = (bI (cpV v h A B != oddI ng) :: base, false) := by
  have hcb : ∀ a y, cbV (28 + h) a y = bI (cmV h a y) := fun a y => by
    unfold cbV
    rw [if_neg (by omega), if_neg (by omega), if_neg (by omega), show 28 + h - 28 = h by omega]
  have fin : ∀ (a y : Int32) (z : Bool), exC v ((28 + h, 0) :: List.replicate ng (15, 0)) (y :: a :: base, z) = (bI ((if z = true then false else cmV h a y) != oddI ng) :: base, false) := fun a y z => by
    rw [exC_cons]
    have e : stp v (28 + h, 0) (y :: a :: base, z) = (bI (if z = true then false else cmV h a y) :: base, false) := by
      unfold stp
      dsimp only
      rw [if_neg (by omega), if_neg (by omega), if_neg (by omega), if_pos (by omega), hcb]
      cases z <;> rfl
    rw [e, ex_not]
  unfold litS cpV
  rw [exC_app, exC_app]
  obtain ⟨p1, p2⟩ := ex_tv (v := v) (base := base) (z := false) hA wA
  cases ha : tvO v A with
  | some a =>
    rw [p1 a ha]
    obtain ⟨q1, q2⟩ := ex_tv (v := v) (base := a :: base) (z := false) hB wB
    cases hb : tvO v B with
    | some b => rw [q1 b hb, fin]; rfl
    | none =>
      obtain ⟨y, e⟩ := q2 hb
      rw [e, fin]; rfl
  | none =>
    obtain ⟨a, e⟩ := p2 ha
    rw [e]
    obtain ⟨q1, q2⟩ := ex_tv (v := v) (base := a :: base) (z := true) hB wB
    cases hb : tvO v B with
    | some b => rw [q1 b hb, fin]; rfl
    | none =>
      obtain ⟨y, e⟩ := q2 hb
      rw [e, fin]; rfl
/-- the depth of the pile -/
def wE : CD → Nat → Nat → Prop
  | [], d, e => d = e
  | x :: r, d, e => if x.1 = 21 ∨ (16 ≤ x.1 ∧ x.1 ≤ 19) then d + 1 ≤ 32 ∧ wE r (d + 1) e else if x.1 = 15 then 1 ≤ d ∧ wE r d e else ((x.1 = 13 ∨ x.1 = 14) ∨ (24 ≤ x.1 ∧ x.1 ≤ 31)) ∧ 2 ≤ d ∧ wE r (d - 1) e
theorem wE_app {A B : CD} : ∀ {d e f : Nat}, wE A d e → wE B e f → wE (A ++ B) d f := by
  induction A with
  | nil => intro d e f h h2; have : d = e := h; rw [this]; exact h2
  | cons x r ih =>
    intro d e f h h2
    rw [List.cons_append]
    unfold wE at h ⊢
    split
    · rename_i c
      rw [if_pos c] at h
      exact ⟨h.1, ih h.2 h2⟩
    · rename_i c
      rw [if_neg c] at h
      split
      · rename_i c2
        rw [if_pos c2] at h
        exact ⟨h.1, ih h.2 h2⟩
      · rename_i c2
        rw [if_neg c2] at h
        exact ⟨h.1, h.2.1, ih h.2.2 h2⟩
theorem wE_of {D : Nat} (hD : D ≤ 16) : ∀ {A : CD} {d e : Nat}, uC A → wfC 16 A d e → wE A (D + d) (D + e) := by
  intro A
  induction A with
  | nil => intro d e _ h; have : d = e := h; rw [this]; rfl
  | cons x r ih =>
    intro d e hu h
    have hx := hu x (List.mem_cons_self ..)
    have hr : uC r := fun y hy => hu y (List.mem_cons_of_mem _ hy)
    obtain ⟨k, w⟩ := x
    unfold wfC at h
    unfold wE
    dsimp only at hx ⊢
    by_cases c : k < 22
    · rw [if_pos c] at h
      rw [if_pos (by omega)]
      exact ⟨by omega, ih hr h.2⟩
    · rw [if_neg c] at h
      rw [if_neg (by omega), if_neg (by omega)]
      refine ⟨by omega, by omega, ?_⟩
      have := ih hr h.2.2
      rw [show D + d - 1 = D + (d - 1) by omega]
      exact this
theorem wE_not {d : Nat} (hd : 1 ≤ d) : ∀ m, wE (List.replicate m (15, 0)) d d := by
  intro m
  induction m with
  | zero => rfl
  | succ m ih =>
    rw [List.replicate_succ]
    unfold wE
    rw [if_neg (by decide), if_pos rfl]
    exact ⟨hd, ih⟩
theorem wE_lit {h ng D : Nat} {A B : CD} (hD : D ≤ 15) (hh : h ≤ 3) (hA : uC A) (hB : uC B) (wA : wfC 16 A 0 1) (wB : wfC 16 B 0 1) : wE (litS h ng A B) D (D + 1) := by
  unfold litS
  refine wE_app (wE_of (D := D) (by omega) hA wA) ?_
  have h2 := wE_of (D := D + 1) (by omega) hB wB
  refine wE_app (e := D + 2) h2 ?_
  unfold wE
  dsimp only
  rw [if_neg (by omega), if_neg (by omega)]
  exact ⟨by omega, by omega, wE_not (by omega) ng⟩
