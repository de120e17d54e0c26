/-! ===== the class goes through a condition ===== -/
def YN : Nat → Bool := fun _ => false
/-- the pile of operators, the top first -/
def Stk : List Nat → ST → Prop
  | [], _ => True
  | k :: F, S => S.1 17 F.length = nI k ∧ Stk F S
/-- steps from a place on -/
def StpC (l : Nat) : Nat → CD → ST → Prop
  | _, [], _ => True
  | a, x :: A, S => (S.1 (l + 1) a = nI x.1 ∧ (x.1 = 21 → S.1 (l + 2) a = nI x.2)) ∧ StpC l (a + 1) A S
theorem Stk.fr {F : List Nat} {S S' : ST} (h : Stk F S) (e : ∀ j, j < F.length → S'.1 17 j = S.1 17 j) : Stk F S' := by
  induction F with
  | nil => trivial
  | cons k F ih => exact ⟨by rw [e _ (by rw [List.length_cons]; omega)]; exact h.1, ih h.2 (fun j hj => e j (by rw [List.length_cons]; omega))⟩
theorem StpC.fr {l : Nat} {A : CD} {S S' : ST} : ∀ {a : Nat}, StpC l a A S → (∀ j, a ≤ j → j < a + A.length → S'.1 (l + 1) j = S.1 (l + 1) j ∧ S'.1 (l + 2) j = S.1 (l + 2) j) → StpC l a A S' := by
  induction A with
  | nil => intro a _ _; trivial
  | cons x A ih =>
    intro a h e
    rw [List.length_cons] at e
    have e1 := e a (Nat.le_refl _) (by omega)
    exact ⟨by rw [e1.1, e1.2]; exact h.1, ih h.2 (fun j h1 h2 => e j (by omega) (by omega))⟩
theorem StpC.app {l : Nat} {A B : CD} {S : ST} : ∀ {a : Nat}, StpC l a A S → StpC l (a + A.length) B S → StpC l a (A ++ B) S := by
  induction A with
  | nil => intro a _ h; exact h
  | cons x A ih =>
    intro a h h2
    rw [List.length_cons] at h2
    exact ⟨h.1, ih h.2 (by rw [show a + 1 + A.length = a + (A.length + 1) by omega]; exact h2)⟩
theorem opsC_app (a b : List Nat) : opsC (a ++ b) = opsC a ++ opsC b := by unfold opsC; rw [List.map_append]
set_option maxRecDepth 100000 in
theorem c_tight {n : Nat} {S : ST} {k : Nat} (hk : k < 36) : E_X2_tightness n S (nI k) = some (nI (tg k)) := by
  have h : ∀ k : Fin 36, E_X2_tightness 0 S00 (nI k.val) = some (nI (tg k.val)) := by decide
  exact h ⟨k, hk⟩
set_option maxRecDepth 100000 in
theorem c_isCmp {n : Nat} {S : ST} {k : Nat} (hk : k < 36) : E_X2_isComparison n S (nI k) = some (bI (decide (28 ≤ k ∧ k ≤ 31))) := by
  have h : ∀ k : Fin 36, E_X2_isComparison 0 S00 (nI k.val) = some (bI (decide (28 ≤ k.val ∧ k.val ≤ 31))) := by decide
  exact h ⟨k, hk⟩
set_option maxRecDepth 100000 in
theorem c_isRck {n : Nat} {S : ST} {k : Nat} (hk : k < 36) : E_X2_isReckoning n S (nI k) = some (bI (decide (24 ≤ k ∧ k ≤ 27))) := by
  have h : ∀ k : Fin 36, E_X2_isReckoning 0 S00 (nI k.val) = some (bI (decide (24 ≤ k.val ∧ k.val ≤ 27))) := by decide
  exact h ⟨k, hk⟩
theorem tg_lt (k : Nat) : tg k < 7 := by
  unfold tg
  repeat' split
  all_goals decide
/-- where it is, by the class -/
def CY (y : Nat × Nat) (S : ST) : Prop := S.1 15 4 = nI y.2 ∧ S.1 15 5 = nI y.1
def XTk (a j : Nat) : Bool := a == 15 && (j == 4 || j == 5)
/-- cells of the grammar's and of the laws' from a step on -/
def XGr (l z a j : Nat) : Bool := (a == 15 && !decide (j < 3)) || (a == 17 || ((a == l && j == 7) || ((a == l + 1 || a == l + 2) && decide (z ≤ j))))
section CFO
variable {n L l : Nat} {c : Nat → Nat} {S : ST}
theorem c_take {k : Nat} {y : Nat × Nat} (hT : CTk c L S) (hy : CY y S) (hw : yW (tkK c L) y) (hk : k < 36) : Ok (E_X2_take n S (nI k)) (fun S' => Df XTk S S' ∧ CY (tk (tkK c L) k y) S') := by
  unfold E_X2_take
  rw [hy.1, hy.2]
  obtain ⟨h1, h2, h3⟩ := hw
  by_cases c0 : y.1 = 0
  case neg =>
    refine Ok.ifF (fun z => c0 ((nI_eq (b := 0) (by omega) (by decide)).mp z)) (Ok.ret ⟨Df.refl _ _, ?_⟩)
    rw [tk_f c0]; exact hy
  refine Ok.ifT (by rw [c0]; rfl) ?_
  apply Ok.step (c_kind hT h2)
  have hkk := tkK_le (c := c) (L := L) (j := y.2)
  by_cases c1 : tkK c L y.2 = k
  case neg =>
    refine Ok.ifF (fun z => c1 ((nI_eq (by omega) (by omega)).mp z)) ?_
    apply Ok.letsU
    refine Ok.ret ⟨(Df.refl _ _).up rfl, ?_⟩
    rw [tk_n c0 c1]
    exact ⟨by rw [upI_at, if_neg (by omega)]; exact hy.1, by rw [upI_at, if_pos ⟨rfl, rfl⟩]; rfl⟩
  refine Ok.ifT (by rw [c1]) ?_
  rw [tk_g c0 c1]
  by_cases c2 : y.2 < 400
  · rw [if_pos c2]
    refine Ok.ifT (nI_lt (b := 400) c2 (by decide)) ?_
    apply Ok.letsU
    refine Ok.ret ⟨(Df.refl _ _).up rfl, ?_, ?_⟩
    · rw [upI_at, if_pos ⟨rfl, rfl⟩, nI_1]
    · rw [upI_at, if_neg (by omega), hy.2, c0]
  · rw [if_neg c2]
    refine Ok.ifF (nI_nlt (b := 400) (by omega) (by omega)) ?_
    apply Ok.letsU
    refine Ok.ret ⟨(Df.refl _ _).up rfl, ?_, ?_⟩
    · rw [upI_at, if_neg (by omega)]; exact hy.1
    · rw [upI_at, if_pos ⟨rfl, rfl⟩]; rfl
theorem XTk_Gr {z : Nat} {S S' : ST} (h : Df XTk S S') : Df (XGr l z) S S' := h.mono (fun a j hx => by
  simp only [XGr, XTk, Bool.or_eq_false_iff, Bool.and_eq_false_iff, beq_eq_false_iff_ne, Bool.not_eq_false', decide_eq_true_eq] at hx ⊢
  omega)
theorem c_lput {z k v : Nat} {x : Int32} (e : S.1 l 7 = nI z) (hz : z < 400) (hl : l ≠ 17) (hv : k = 21 → x = nI v) : Ok (E_X4_put n S l (nI k) x) (fun S' => Df (XGr l z) S S' ∧ S'.1 l 7 = nI (z + 1) ∧ StpC l z [(k, v)] S' ∧ (∀ a j, a ≠ l → a ≠ l + 1 → a ≠ l + 2 → S'.1 a j = S.1 a j)) := by
  have x1 : XGr l z (l + 1) z = true := by simp [XGr]
  have x2 : XGr l z (l + 2) z = true := by simp [XGr]
  have x3 : XGr l z l 7 = true := by simp [XGr]
  unfold E_X4_put
  rw [e]
  refine Ok.ifF (nI_ge (b := 400) hz (by decide)) ?_
  apply Ok.step (wr_nI hz (by decide))
  rw [upI_at, if_neg (by omega), e]
  apply Ok.step (wr_nI hz (by decide))
  apply Ok.letsU
  refine Ok.ret ⟨(((Df.refl _ _).up x1).up x2).up x3, ?_, ⟨⟨?_, fun h => ?_⟩, trivial⟩, fun a j h1 h2 h3 => ?_⟩
  · rw [upI_at, if_pos ⟨rfl, rfl⟩, upI_at, if_neg (by omega), upI_at, if_neg (by omega), e, nI_1]
  · rw [upI_at, if_neg (by omega), upI_at, if_neg (by omega), upI_at, if_pos ⟨rfl, rfl⟩]
  · rw [upI_at, if_neg (by omega), upI_at, if_pos ⟨rfl, rfl⟩, hv h]
  · rw [upI_at, if_neg (by omega), upI_at, if_neg (by omega), upI_at, if_neg (by omega)]
theorem XGr.mono {z z' : Nat} (h : z ≤ z') {S S' : ST} (d : Df (XGr l z') S S') : Df (XGr l z) S S' := d.mono (fun a j hx => by
  simp only [XGr, Bool.or_eq_false_iff, Bool.and_eq_false_iff, beq_eq_false_iff_ne, Bool.not_eq_false', decide_eq_true_eq, decide_eq_false_iff_not] at hx ⊢
  omega)
/-- the cells that a release changes -/
theorem c_release {t z : Nat} {F : List Nat} (hn : 30000 ≤ n) (ht : 1 ≤ t) (ht2 : t ≤ 7) (hl : l = 35 ∨ l = 60) (hF : F.length ≤ 400) (e3 : S.1 15 3 = nI F.length) (hS : Stk F S) (hk : ∀ k ∈ F, k < 36 ∧ k ≠ 21) (e7 : S.1 l 7 = nI z) (hz : z + (relO t F).length ≤ 400) :
    Ok (E_X2_release n S l (nI t)) (fun S' => Df (XGr l z) S S' ∧ S'.1 15 3 = nI (relR t F).length ∧ Stk (relR t F) S' ∧ S'.1 l 7 = nI (z + (relO t F).length) ∧ StpC l z (opsC (relO t F)) S' ∧ ∀ j, j ≠ 3 → S'.1 15 j = S.1 15 j) := by
  unfold E_X2_release
  refine bindW (fun d S' => ∃ F' A', d = F'.length ∧ relO t F = A' ++ relO t F' ∧ relR t F = relR t F' ∧ F'.length ≤ 400 ∧ (∀ k ∈ F', k < 36 ∧ k ≠ 21) ∧ S'.1 15 3 = nI F'.length ∧ Stk F' S' ∧ S'.1 l 7 = nI (z + A'.length) ∧ StpC l z (opsC A') S' ∧ Df (XGr l z) S S' ∧ ∀ j, j ≠ 3 → S'.1 15 j = S.1 15 j) F.length (fun S' => Df (XGr l z) S S' ∧ S'.1 15 3 = nI (relR t F).length ∧ Stk (relR t F) S' ∧ S'.1 l 7 = nI (z + (relO t F).length) ∧ StpC l z (opsC (relO t F)) S' ∧ ∀ j, j ≠ 3 → S'.1 15 j = S.1 15 j) (by omega) ?_ ?_ ?_
  · exact ⟨F, [], rfl, rfl, rfl, hF, hk, e3, hS, e7, trivial, Df.refl _ _, fun _ _ => rfl⟩
  · rintro d S1 ⟨F', A', rfl, g1, g2, g3, g4, g5, g6, g7, g8, g9, g10⟩
    cases F' with
    | nil =>
      refine Ok.ifT (by rw [g5]; decide) (Ok.inr ⟨g9, by rw [g2]; exact g5, by rw [g2]; exact g6, ?_, ?_, g10⟩)
      · rw [g1, g7, List.length_append]; rfl
      · rw [g1, opsC_app]; exact g8.app trivial
    | cons k F' =>
      obtain ⟨k1, k2⟩ := g4 k (List.mem_cons_self ..)
      rw [List.length_cons] at g3 g5
      have es : nI (F'.length + 1) - 1 = nI F'.length := by
        have := nI_subC 1 F'.length
        rw [Nat.add_comm] at this
        exact this
      refine Ok.ifF (by rw [g5]; exact nI_nle (by omega) (by omega)) ?_
      rw [g5, es]
      apply Ok.step (rd_nI (by omega) (by decide))
      rw [g6.1]
      apply Ok.step (c_tight k1)
      have ht3 := tg_lt k
      by_cases c1 : t ≤ tg k
      case neg =>
        refine Ok.ifT (nI_lt (by omega) (by omega)) (Ok.inr ⟨g9, ?_, ?_, ?_, ?_, g10⟩)
        · rw [g2, relR, if_neg c1, List.length_cons]; exact g5
        · rw [g2, relR, if_neg c1]; exact g6
        · rw [g1, relO, if_neg c1, g7, List.append_nil]
        · rw [g1, relO, if_neg c1, List.append_nil]; exact g8
      refine Ok.ifF (nI_nlt (by omega) (by omega)) ?_
      apply Ok.letsU
      rw [relO, if_pos c1] at g1
      rw [relR, if_pos c1] at g2
      have hzA : z + A'.length < 400 := by rw [g1, List.length_append, List.length_cons] at hz; omega
      have f3 : (upI S1 15 3 (nI F'.length)).1 15 3 = nI F'.length := by rw [upI_at, if_pos ⟨rfl, rfl⟩]
      rw [f3]
      apply Ok.step (x := nI k) (by rw [rd_nI (by omega) (by decide), upI_at, if_neg (by omega), g6.1])
      have f7 : (upI S1 15 3 (nI F'.length)).1 l 7 = nI (z + A'.length) := by rw [upI_at, if_neg (by omega)]; exact g7
      obtain ⟨S2, f1, d2, p1, p2, p3⟩ := c_lput (n := n) (k := k) (v := 0) (x := 0) f7 hzA (by omega) (fun h => absurd h k2)
      apply Ok.step (show E_X4_put n _ l (nI k) (0 : Int32) = some S2 from f1)
      have x1 : XGr l z 15 3 = true := by simp [XGr]
      have o15 : ∀ j, S2.1 15 j = (upI S1 15 3 (nI F'.length)).1 15 j := fun j => p3 _ _ (by omega) (by omega) (by omega)
      refine Ok.inl ⟨F'.length, by rw [List.length_cons]; omega, F', A' ++ [k], rfl, ?_, g2, by omega, fun j hj => g4 j (List.mem_cons_of_mem _ hj), ?_, ?_, ?_, ?_, (g9.up x1).trans (XGr.mono (by omega) d2), ?_⟩
      · rw [g1, List.append_assoc]; rfl
      · rw [o15, f3]
      · exact g6.2.fr (fun j hj => by rw [p3 _ _ (by omega) (by omega) (by omega), upI_at, if_neg (by omega)])
      · rw [p1, List.length_append]; rfl
      · rw [opsC_app]
        refine StpC.app (g8.fr (fun j h1 h2 => ?_)) ?_
        · rw [opsC_len] at h2
          have hx1 : XGr l (z + A'.length) (l + 1) j = false := by
            simp only [XGr, Bool.or_eq_false_iff, Bool.and_eq_false_iff, beq_eq_false_iff_ne, decide_eq_false_iff_not]
            omega
          have hx2 : XGr l (z + A'.length) (l + 2) j = false := by
            simp only [XGr, Bool.or_eq_false_iff, Bool.and_eq_false_iff, beq_eq_false_iff_ne, decide_eq_false_iff_not]
            omega
          rw [d2.2 _ _ hx1, d2.2 _ _ hx2, upI_at, if_neg (by omega), upI_at, if_neg (by omega)]
          exact ⟨rfl, rfl⟩
        · rw [opsC_len]; exact p2
      · intro j hj
        rw [o15, upI_at, if_neg (by omega)]; exact g10 j hj
  · intro e h
    exact Ok.ret h
theorem c_push {k z : Nat} {F : List Nat} (hF : F.length < 400) (e3 : S.1 15 3 = nI F.length) (hS : Stk F S) : Ok (E_X2_push n S (nI k)) (fun S' => Df (XGr l z) S S' ∧ S'.1 15 3 = nI (k :: F).length ∧ Stk (k :: F) S' ∧ ∀ a j, a ≠ 17 → (a ≠ 15 ∨ j ≠ 3) → S'.1 a j = S.1 a j) := by
  have x1 : XGr l z 15 3 = true := by simp [XGr]
  have x2 : XGr l z 17 F.length = true := by simp [XGr]
  unfold E_X2_push
  rw [e3]
  refine Ok.ifF (nI_ge (b := 400) hF (by decide)) ?_
  apply Ok.step (wr_nI hF (by decide))
  apply Ok.letsU
  refine Ok.ret ⟨((Df.refl _ _).up x2).up x1, ?_, ⟨?_, ?_⟩, fun a j h1 h2 => ?_⟩
  · rw [upI_at, if_pos ⟨rfl, rfl⟩, upI_at, if_neg (by omega), e3, nI_1, List.length_cons]
  · rw [upI_at, if_neg (by omega), upI_at, if_pos ⟨rfl, rfl⟩]
  · exact hS.fr (fun j hj => by rw [upI_at, if_neg (by omega), upI_at, if_neg (by omega)])
  · rw [upI_at, if_neg (by omega), upI_at, if_neg (by omega)]
end CFO
