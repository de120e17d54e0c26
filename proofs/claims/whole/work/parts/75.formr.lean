/-! ===== the reference goes through a condition: its parts ===== -/
/-- where it is, by the reference -/
def RY (c : Nat → Nat) (L : Nat) (y : Nat × Nat) (S : ST) : Prop := S.1 95 13 = nI y.1 ∧ (y.1 = 0 → S.1 95 11 = nI y.2) ∧ (y.1 ≠ 0 → S.1 95 14 = nI (tkS c L y.2) ∧ ∃ t, t ≤ 400 ∧ S.1 95 11 = nI t)
def XFl (a j : Nat) : Bool := a == 95 && (j == 11 || (j == 13 || j == 14))
def cdK (k : Nat) : Nat := if k = 21 then 0 else if k ≤ 19 then 1 else k - 22
def cdV (x : Nat × Nat) : Nat := if x.1 = 21 then x.2 else x.1 - 16
/-- codes from a place on -/
def CdR : Nat → CD → ST → Prop
  | _, [], _ => True
  | a, x :: A, S => (S.1 134 a = nI (cdK x.1) ∧ (x.1 ≤ 21 → S.1 135 a = nI (cdV x))) ∧ CdR (a + 1) A S
def WtR : List Nat → ST → Prop
  | [], _ => True
  | k :: F, S => S.1 136 F.length = nI (kR k) ∧ WtR F S
theorem WtR.fr {F : List Nat} {S S' : ST} (h : WtR F S) (e : ∀ j, j < F.length → S'.1 136 j = S.1 136 j) : WtR F S' := by
  induction F with
  | nil => trivial
  | cons k F ih => exact ⟨by rw [e _ (by rw [List.length_cons]; omega)]; exact h.1, ih h.2 (fun j hj => e j (by rw [List.length_cons]; omega))⟩
theorem CdR.fr {A : CD} {S S' : ST} : ∀ {a : Nat}, CdR a A S → (∀ j, a ≤ j → j < a + A.length → S'.1 134 j = S.1 134 j ∧ S'.1 135 j = S.1 135 j) → CdR a A S' := by
  induction A with
  | nil => intro a _ _; trivial
  | cons x A ih =>
    intro a h e
    rw [List.length_cons] at e
    have e1 := e a (Nat.le_refl _) (by omega)
    exact ⟨by rw [e1.1, e1.2]; exact h.1, ih h.2 (fun j h1 h2 => e j (by omega) (by omega))⟩
theorem CdR.app {A B : CD} {S : ST} : ∀ {a : Nat}, CdR a A S → CdR (a + A.length) B S → CdR a (A ++ B) S := by
  induction A with
  | nil => intro a _ h; exact h
  | cons x A ih =>
    intro a h h2
    rw [List.length_cons] at h2
    exact ⟨h.1, ih h.2 (by rw [show a + 1 + A.length = a + (A.length + 1) by omega]; exact h2)⟩
set_option maxRecDepth 100000 in
theorem kR_inj {a b : Nat} (ha : a < 36) (hb : b < 36) : kR a = kR b ↔ a = b := by
  have h : ∀ a b : Fin 36, kR a.val = kR b.val → a.val = b.val := by decide
  exact ⟨fun e => h ⟨a, ha⟩ ⟨b, hb⟩ e, fun e => by rw [e]⟩
theorem kR_lt {a : Nat} (ha : a < 36) : kR a < 40 := by
  have h : ∀ a : Fin 36, kR a.val < 40 := by decide
  exact h ⟨a, ha⟩
theorem kR_eq {a b : Nat} (ha : a < 36) (hb : b < 36) : nI (kR a) = nI (kR b) ↔ a = b := by
  have h1 := kR_lt ha
  have h2 := kR_lt hb
  rw [nI_eq (by omega) (by omega), kR_inj ha hb]
/-- a token goes by -/
def gy (y : Nat × Nat) : Nat × Nat := if y.1 = 0 then (if y.2 < 400 then (0, y.2 + 1) else (2, y.2)) else y
theorem tk_gy {K : Nat → Nat} {k : Nat} {y : Nat × Nat} (h : y.1 = 0 → K y.2 = k) : tk K k y = gy y := by
  unfold tk gy
  by_cases c : y.1 = 0
  · rw [if_pos c, if_pos c, if_pos (h c)]
  · rw [if_neg c, if_neg c]
def XEx (uc z a j : Nat) : Bool := (a == 95 && ((j == 11 || j == 12) || ((j == 13 || j == 14) || (j == 53 || j == 57)))) || (a == 136 || ((a == 134 || a == 135) && decide (z ≤ j ∧ j < uc)))
theorem XEx.mono {uc z z' : Nat} (h : z ≤ z') {S S' : ST} (d : Df (XEx uc z') S S') : Df (XEx uc z) S S' := d.mono (fun a j hx => by
  simp only [XEx, Bool.or_eq_false_iff, Bool.and_eq_false_iff, beq_eq_false_iff_ne, decide_eq_false_iff_not] at hx ⊢
  omega)
theorem XFl_Ex {uc z : Nat} {S S' : ST} (d : Df XFl S S') : Df (XEx uc z) S S' := d.mono (fun a j hx => by
  simp only [XEx, XFl, Bool.or_eq_false_iff, Bool.and_eq_false_iff, beq_eq_false_iff_ne, decide_eq_false_iff_not] at hx ⊢
  omega)
section RFO
variable {n L uc : Nat} {c : Nat → Nat} {S : ST}
theorem RTk.ex {z : Nat} {S S' : ST} (h : RTk c L S) (d : Df (XEx uc z) S S') : RTk c L S' := h.d2 (D2.of (Y := YN) d) (fun a j h1 h2 => by
  simp only [XEx, Bool.or_eq_false_iff, Bool.and_eq_false_iff, beq_eq_false_iff_ne]
  omega) rfl
theorem RTk.fl {S S' : ST} (h : RTk c L S) (d : Df XFl S S') : RTk c L S' := h.ex (XFl_Ex (uc := 0) (z := 0) d)
theorem RTk.k {y : Nat × Nat} (h : RTk c L S) (hw : yW (tkK c L) y) : S.1 98 y.2 = nI (kR (tkK c L y.2)) := (h y.2 hw.2.1 hw.2.2).1
theorem RTk.p {y : Nat × Nat} (h : RTk c L S) (hw : yW (tkK c L) y) : S.1 99 y.2 = nI (tkS c L y.2) := (h y.2 hw.2.1 hw.2.2).2.1
theorem r_is {k : Nat} {y : Nat × Nat} (hT : RTk c L S) (hy : RY c L y S) (hw : yW (tkK c L) y) (hk : k < 36) : E_X12_is n S (nI (kR k)) = some (bI (decide (y.1 = 0 ∧ tkK c L y.2 = k))) := by
  unfold E_X12_is
  have h1 := hw.1
  have h2 := hw.2.1
  rw [hy.1]
  by_cases c0 : y.1 = 0
  case neg =>
    rw [if_neg (show ¬ nI y.1 = (0 : Int32) from fun z => c0 ((nI_eq (b := 0) (by omega) (by decide)).mp z)), decide_eq_false (fun z => c0 z.1)]; rfl
  rw [if_pos (by rw [c0]; rfl), hy.2.1 c0, rd_nI (by omega) (by decide), Option.bind_some, hT.k hw]
  have hkk := tkK_le (c := c) (L := L) (j := y.2)
  by_cases c1 : tkK c L y.2 = k
  · rw [if_pos (by rw [c1]), decide_eq_true ⟨c0, c1⟩]; rfl
  · rw [if_neg (fun z => c1 ((kR_eq (by omega) hk).mp z)), decide_eq_false (fun z => c1 z.2)]; rfl
theorem r_fail {f : Nat} {y : Nat × Nat} (hT : RTk c L S) (hy : RY c L y S) (hw : yW (tkK c L) y) : Ok (E_X12_fail n S (nI f)) (fun S' => Df XFl S S' ∧ RY c L (if y.1 = 0 then (f, y.2) else y) S' ∧ S'.1 95 11 = S.1 95 11) := by
  have h1 := hw.1
  have h2 := hw.2.1
  unfold E_X12_fail
  rw [hy.1]
  by_cases c0 : y.1 = 0
  case neg =>
    refine Ok.ifF (nI_nle (by omega) (by omega)) (Ok.ret ⟨Df.refl _ _, ?_, rfl⟩)
    rw [if_neg c0]; exact hy
  refine Ok.ifT (by rw [c0]; decide) ?_
  apply Ok.letsU
  have e11 : (upI S 95 13 (nI f)).1 95 11 = nI y.2 := by rw [upI_at, if_neg (by omega)]; exact hy.2.1 c0
  rw [e11]
  apply Ok.step (x := nI (tkS c L y.2)) (by rw [rd_nI (by omega) (by decide), upI_at, if_neg (by omega), hT.p hw])
  apply Ok.letsU
  refine Ok.ret ⟨((Df.refl _ _).up rfl).up rfl, ⟨?_, fun z => ?_, fun z => ⟨?_, y.2, h2, ?_⟩⟩, ?_⟩
  · rw [if_pos c0, upI_at, if_neg (by omega), upI_at, if_pos ⟨rfl, rfl⟩]
  · rw [if_pos c0, upI_at, if_neg (by omega)]; exact e11
  · rw [if_pos c0, upI_at, if_pos ⟨rfl, rfl⟩]
  · rw [upI_at, if_neg (by omega)]; exact e11
  · rw [upI_at, if_neg (by omega), upI_at, if_neg (by omega)]
theorem r_goesOn {y : Nat × Nat} (hT : RTk c L S) (hy : RY c L y S) (hw : yW (tkK c L) y) : Ok (E_X12_goesOn n S) (fun S' => Df XFl S S' ∧ RY c L (gy y) S') := by
  have h1 := hw.1
  have h2 := hw.2.1
  unfold E_X12_goesOn
  by_cases c0 : y.1 = 0
  case neg =>
    obtain ⟨g1, t, g2, g3⟩ := hy.2.2 c0
    have eg : gy y = y := if_neg c0
    rw [g3, eg]
    by_cases c1 : t = 400
    · refine Ok.ifT (by rw [c1]; rfl) ?_
      obtain ⟨S1, e1, d1, y1, _⟩ := r_fail (n := n) (f := 2) hT hy hw
      rw [if_neg c0] at y1
      apply Ok.step (show E_X12_fail n S (2 : Int32) = some S1 from e1)
      exact Ok.ret ⟨d1, y1⟩
    · refine Ok.ifF (fun z => c1 ((nI_eq (b := 400) (by omega) (by decide)).mp z)) ?_
      apply Ok.letsU
      refine Ok.ret ⟨(Df.refl _ _).up rfl, ?_, fun z => absurd z c0, fun _ => ⟨?_, t + 1, by omega, ?_⟩⟩
      · rw [upI_at, if_neg (by omega)]; exact hy.1
      · rw [upI_at, if_neg (by omega)]; exact g1
      · rw [upI_at, if_pos ⟨rfl, rfl⟩, nI_1]
  rw [hy.2.1 c0]
  by_cases c1 : y.2 < 400
  · have eg : gy y = (0, y.2 + 1) := by unfold gy; rw [if_pos c0, if_pos c1]
    refine Ok.ifF (fun z => by have := (nI_eq (b := 400) (by omega) (by decide)).mp z; omega) ?_
    apply Ok.letsU
    rw [eg]
    refine Ok.ret ⟨(Df.refl _ _).up rfl, ?_, fun _ => ?_, fun z => absurd rfl z⟩
    · rw [upI_at, if_neg (by omega), hy.1, c0]
    · rw [upI_at, if_pos ⟨rfl, rfl⟩, nI_1]
  · have eg : gy y = (2, y.2) := by unfold gy; rw [if_pos c0, if_neg c1]
    refine Ok.ifT (by rw [show y.2 = 400 by omega]; rfl) ?_
    obtain ⟨S1, e1, d1, y1, _⟩ := r_fail (n := n) (f := 2) hT hy hw
    rw [if_pos c0] at y1
    apply Ok.step (show E_X12_fail n S (2 : Int32) = some S1 from e1)
    rw [eg]
    exact Ok.ret ⟨d1, y1⟩
theorem r_must {k : Nat} {y : Nat × Nat} (hT : RTk c L S) (hy : RY c L y S) (hw : yW (tkK c L) y) (hk : k < 36) : Ok (E_X12_must n S (nI (kR k))) (fun S' => Df XFl S S' ∧ RY c L (tk (tkK c L) k y) S') := by
  unfold E_X12_must
  apply Ok.step (r_is hT hy hw hk)
  by_cases c1 : y.1 = 0 ∧ tkK c L y.2 = k
  · refine Ok.ifF (by rw [decide_eq_true c1]; decide) ?_
    obtain ⟨S1, e1, d1, y1⟩ := r_goesOn (n := n) hT hy hw
    apply Ok.step e1
    rw [tk_gy (fun _ => c1.2)]
    exact Ok.ret ⟨d1, y1⟩
  · refine Ok.ifT (by rw [decide_eq_false c1]; rfl) ?_
    obtain ⟨S1, e1, d1, y1, _⟩ := r_fail (n := n) (f := 1) hT hy hw
    apply Ok.step (show E_X12_fail n S (1 : Int32) = some S1 from e1)
    refine Ok.ret ⟨d1, ?_⟩
    by_cases c0 : y.1 = 0
    · rw [if_pos c0] at y1
      rw [tk_n c0 (fun z => c1 ⟨c0, z⟩)]; exact y1
    · rw [if_neg c0] at y1
      rw [tk_f c0]; exact y1
theorem r_emit {z k v : Nat} (x : Nat × Nat) (e : S.1 95 53 = nI z) (hz0 : z < uc) (huc : uc ≤ 840) (hk : k = cdK x.1) (hv : x.1 ≤ 21 → v = cdV x) : Ok (E_X12_emit n S (nI k) (nI v)) (fun S' => Df (XEx uc z) S S' ∧ S'.1 95 53 = nI (z + 1) ∧ CdR z [x] S' ∧ (∀ a j, a ≠ 134 → a ≠ 135 → (a ≠ 95 ∨ j ≠ 53) → S'.1 a j = S.1 a j)) := by
  have hz : z < 840 := by omega
  have x1 : XEx uc z 134 z = true := by simp [XEx, hz0]
  have x2 : XEx uc z 135 z = true := by simp [XEx, hz0]
  unfold E_X12_emit
  rw [e]
  apply Ok.step (wr_nI hz (by decide))
  rw [upI_at, if_neg (by omega), e]
  apply Ok.step (wr_nI hz (by decide))
  apply Ok.letsU
  refine Ok.ret ⟨(((Df.refl _ _).up x1).up x2).up rfl, ?_, ⟨⟨?_, fun h => ?_⟩, trivial⟩, fun a j h1 h2 h3 => ?_⟩
  · rw [upI_at, if_pos ⟨rfl, rfl⟩, upI_at, if_neg (by omega), upI_at, if_neg (by omega), e, nI_1]
  · rw [upI_at, if_neg (by omega), upI_at, if_neg (by omega), upI_at, if_pos ⟨rfl, rfl⟩, hk]
  · rw [upI_at, if_neg (by omega), upI_at, if_pos ⟨rfl, rfl⟩, hv h]
  · rw [upI_at, if_neg (by omega), upI_at, if_neg (by omega), upI_at, if_neg (by omega)]
theorem r_comesOut {t z : Nat} {b : Bool} {F : List Nat} (hn : 30000 ≤ n) (ht : (b = true ∧ t = 6) ∨ (b = false ∧ 1 ≤ t ∧ t ≤ 5)) (hF : F.length ≤ 60) (hK : SK F) (e3 : S.1 95 57 = nI F.length) (hS : WtR F S) (e7 : S.1 95 53 = nI z) (huc : uc ≤ 840) (hz : z + (relO t F).length ≤ uc) :
    Ok (E_X12_comesOut n S (bI b)) (fun S' => Df (XEx uc z) S S' ∧ S'.1 95 57 = nI (relR t F).length ∧ WtR (relR t F) S' ∧ S'.1 95 53 = nI (z + (relO t F).length) ∧ CdR z (opsC (relO t F)) S' ∧ ∀ a j, a ≠ 134 → a ≠ 135 → (a ≠ 95 ∨ (j ≠ 53 ∧ j ≠ 57)) → S'.1 a j = S.1 a j) := by
  unfold E_X12_comesOut
  have fin : ∀ (S1 : ST) (F' A' : List Nat), relO t F = A' ++ relO t F' → relR t F = relR t F' → S1.1 95 57 = nI F'.length → WtR F' S1 → S1.1 95 53 = nI (z + A'.length) → CdR z (opsC A') S1 → Df (XEx uc z) S S1 → (∀ a j, a ≠ 134 → a ≠ 135 → (a ≠ 95 ∨ (j ≠ 53 ∧ j ≠ 57)) → S1.1 a j = S.1 a j) → relO t F' = [] → relR t F' = F' → (Df (XEx uc z) S S1 ∧ S1.1 95 57 = nI (relR t F).length ∧ WtR (relR t F) S1 ∧ S1.1 95 53 = nI (z + (relO t F).length) ∧ CdR z (opsC (relO t F)) S1 ∧ ∀ a j, a ≠ 134 → a ≠ 135 → (a ≠ 95 ∨ (j ≠ 53 ∧ j ≠ 57)) → S1.1 a j = S.1 a j) := fun S1 F' A' g1 g2 g5 g6 g7 g8 g9 g10 q1 q2 => by
    rw [g1, g2, q1, q2, List.append_nil]
    exact ⟨g9, g5, g6, g7, g8, g10⟩
  refine bindW (fun d S' => ∃ F' A', d = F'.length ∧ relO t F = A' ++ relO t F' ∧ relR t F = relR t F' ∧ F'.length ≤ 60 ∧ SK F' ∧ S'.1 95 57 = nI F'.length ∧ WtR F' S' ∧ S'.1 95 53 = nI (z + A'.length) ∧ CdR z (opsC A') S' ∧ Df (XEx uc z) S S' ∧ ∀ a j, a ≠ 134 → a ≠ 135 → (a ≠ 95 ∨ (j ≠ 53 ∧ j ≠ 57)) → S'.1 a j = S.1 a j) F.length (fun r => Df (XEx uc z) S (Sum.elim id id r) ∧ (Sum.elim id id r).1 95 57 = nI (relR t F).length ∧ WtR (relR t F) (Sum.elim id id r) ∧ (Sum.elim id id r).1 95 53 = nI (z + (relO t F).length) ∧ CdR z (opsC (relO t F)) (Sum.elim id id r) ∧ ∀ a j, a ≠ 134 → a ≠ 135 → (a ≠ 95 ∨ (j ≠ 53 ∧ j ≠ 57)) → (Sum.elim id id r).1 a j = S.1 a j) (by omega) ?_ ?_ ?_
  · exact ⟨F, [], rfl, rfl, rfl, hF, hK, e3, hS, e7, trivial, Df.refl _ _, fun _ _ _ _ _ => rfl⟩
  · rintro d S1 ⟨F', A', rfl, g1, g2, g3, g4, g5, g6, g7, g8, g9, g10⟩
    cases F' with
    | nil => exact Ok.ifT (by rw [g5]; decide) (Ok.inr (fin S1 [] A' g1 g2 g5 g6 g7 g8 g9 g10 rfl rfl))
    | cons k F' =>
      have hk := SK_mem g4 k (List.mem_cons_self ..)
      have stay : ¬ t ≤ tg k → _ := fun c1 => fin S1 (k :: F') A' g1 g2 g5 g6 g7 g8 g9 g10 (by rw [relO, if_neg c1]) (by rw [relR, if_neg c1])
      have g3' := g3
      have g5' := g5
      rw [List.length_cons] at g3' g5'
      have es : nI (F'.length + 1) - 1 = nI F'.length := by
        have := nI_subC 1 F'.length
        rw [Nat.add_comm] at this
        exact this
      refine Ok.ifF (by rw [g5']; exact nI_nle (by omega) (by omega)) ?_
      rw [g5', es]
      apply Ok.step (rd_nI (by omega) (by decide))
      rw [g6.1]
      by_cases c6 : k = 32
      · refine Ok.ifT (by rw [c6]; rfl) (Ok.inr (stay ?_))
        rw [c6]
        have : tg 32 = 0 := by decide
        omega
      have hop : 24 ≤ k ∧ k ≤ 27 := by
        rcases hk with z | z
        · exact absurd z c6
        · exact z
      have q : ∀ j, j < 36 → k ≠ j → ¬ nI (kR k) = nI (kR j) := fun j hj h z => h ((kR_eq (by omega) hj).mp z)
      refine Ok.ifF (q 32 (by decide) c6) ?_
      apply Ok.jnU
      have pop : t ≤ tg k → Ok (lets (upI S1 95 57 (nI F'.length)) fun (S5 : ST) => jn (fun (u6 : Int32) => (E_X12_emit n S5 u6 (0 : Int32)).bind fun S8 => (some (.inl S8) : Option (ST ⊕ (ST ⊕ ST)))) fun j9 => if nI (kR k) = (8 : Int32) then j9 (2 : Int32) else if nI (kR k) = (9 : Int32) then j9 (3 : Int32) else if nI (kR k) = (10 : Int32) then j9 (4 : Int32) else j9 (5 : Int32)) (Sum.elim (fun s' => ∃ d', d' < (k :: F').length ∧ ∃ F' A', d' = F'.length ∧ relO t F = A' ++ relO t F' ∧ relR t F = relR t F' ∧ F'.length ≤ 60 ∧ SK F' ∧ s'.1 95 57 = nI F'.length ∧ WtR F' s' ∧ s'.1 95 53 = nI (z + A'.length) ∧ CdR z (opsC A') s' ∧ Df (XEx uc z) S s' ∧ ∀ a j, a ≠ 134 → a ≠ 135 → (a ≠ 95 ∨ (j ≠ 53 ∧ j ≠ 57)) → s'.1 a j = S.1 a j) (fun r => Df (XEx uc z) S (Sum.elim id id r) ∧ (Sum.elim id id r).1 95 57 = nI (relR t F).length ∧ WtR (relR t F) (Sum.elim id id r) ∧ (Sum.elim id id r).1 95 53 = nI (z + (relO t F).length) ∧ CdR z (opsC (relO t F)) (Sum.elim id id r) ∧ ∀ a j, a ≠ 134 → a ≠ 135 → (a ≠ 95 ∨ (j ≠ 53 ∧ j ≠ 57)) → (Sum.elim id id r).1 a j = S.1 a j)) := fun c1 => by
        rw [relO, if_pos c1] at g1
        rw [relR, if_pos c1] at g2
        have hzA : z + A'.length < uc := by rw [g1, List.length_append, List.length_cons] at hz; omega
        apply Ok.letsU
        apply Ok.jnU
        have f7 : (upI S1 95 57 (nI F'.length)).1 95 53 = nI (z + A'.length) := by rw [upI_at, if_neg (by omega)]; exact g7
        obtain ⟨S2, f1, d2, p1, p2, p3⟩ := r_emit (n := n) (k := k - 22) (v := 0) (k, 0) f7 hzA huc (by unfold cdK; dsimp only; rw [if_neg (by omega), if_neg (by omega)]) (fun h => by dsimp only at h; omega)
        have go : Ok ((E_X12_emit n (upI S1 95 57 (nI F'.length)) (nI (k - 22)) (0 : Int32)).bind fun S8 => (some (.inl S8) : Option (ST ⊕ (ST ⊕ ST)))) (Sum.elim (fun s' => ∃ d', d' < (k :: F').length ∧ ∃ F' A', d' = F'.length ∧ relO t F = A' ++ relO t F' ∧ relR t F = relR t F' ∧ F'.length ≤ 60 ∧ SK F' ∧ s'.1 95 57 = nI F'.length ∧ WtR F' s' ∧ s'.1 95 53 = nI (z + A'.length) ∧ CdR z (opsC A') s' ∧ Df (XEx uc z) S s' ∧ ∀ a j, a ≠ 134 → a ≠ 135 → (a ≠ 95 ∨ (j ≠ 53 ∧ j ≠ 57)) → s'.1 a j = S.1 a j) (fun r => Df (XEx uc z) S (Sum.elim id id r) ∧ (Sum.elim id id r).1 95 57 = nI (relR t F).length ∧ WtR (relR t F) (Sum.elim id id r) ∧ (Sum.elim id id r).1 95 53 = nI (z + (relO t F).length) ∧ CdR z (opsC (relO t F)) (Sum.elim id id r) ∧ ∀ a j, a ≠ 134 → a ≠ 135 → (a ≠ 95 ∨ (j ≠ 53 ∧ j ≠ 57)) → (Sum.elim id id r).1 a j = S.1 a j)) := by
          apply Ok.step (show E_X12_emit n _ (nI (k - 22)) (0 : Int32) = some S2 from f1)
          refine Ok.inl ⟨F'.length, by rw [List.length_cons]; omega, F', A' ++ [k], rfl, ?_, g2, by omega, g4.1, ?_, ?_, ?_, ?_, (g9.up rfl).trans (XEx.mono (by omega) d2), ?_⟩
          · rw [g1, List.append_assoc]; rfl
          · rw [p3 _ _ (by omega) (by omega) (by omega), upI_at, if_pos ⟨rfl, rfl⟩]
          · exact g6.2.fr (fun j hj => by rw [p3 _ _ (by omega) (by omega) (by omega), upI_at, if_neg (by omega)])
          · rw [p1, List.length_append]; rfl
          · rw [opsC_app]
            refine CdR.app (g8.fr (fun j h1 h2 => ?_)) ?_
            · rw [opsC_len] at h2
              have hx1 : XEx uc (z + A'.length) 134 j = false := by
                simp only [XEx, Bool.or_eq_false_iff, Bool.and_eq_false_iff, beq_eq_false_iff_ne, decide_eq_false_iff_not]
                omega
              have hx2 : XEx uc (z + A'.length) 135 j = false := by
                simp only [XEx, Bool.or_eq_false_iff, Bool.and_eq_false_iff, beq_eq_false_iff_ne, decide_eq_false_iff_not]
                omega
              rw [d2.2 _ _ hx1, d2.2 _ _ hx2, upI_at, if_neg (by omega), upI_at, if_neg (by omega)]
              exact ⟨rfl, rfl⟩
            · rw [opsC_len]; exact p2
          · intro a j h1 h2 h3
            rw [p3 _ _ h1 h2 (by omega), upI_at, if_neg (by omega)]; exact g10 a j h1 h2 h3
        have h4 : k = 24 ∨ k = 25 ∨ k = 26 ∨ k = 27 := by omega
        rcases h4 with h | h | h | h
        · subst h; exact Ok.ifT (by decide) go
        · subst h; exact Ok.ifF (by decide) (Ok.ifT (by decide) go)
        · subst h; exact Ok.ifF (by decide) (Ok.ifF (by decide) (Ok.ifT (by decide) go))
        · subst h; exact Ok.ifF (by decide) (Ok.ifF (by decide) (Ok.ifF (by decide) go))
      have htg := tg_op hop
      rcases ht with ⟨hb, ht⟩ | ⟨hb, ht⟩
      · refine Ok.ifF (by rw [hb]; decide) ?_
        by_cases c8 : k = 24
        · refine Ok.ifT (by rw [c8]; rfl) (Ok.inr (stay ?_))
          rw [c8]
          have : tg 24 = 5 := by decide
          omega
        refine Ok.ifF (q 24 (by decide) c8) ?_
        by_cases c9 : k = 25
        · refine Ok.ifT (by rw [c9]; rfl) (Ok.inr (stay ?_))
          rw [c9]
          have : tg 25 = 5 := by decide
          omega
        refine Ok.ifF (q 25 (by decide) c9) (pop ?_)
        have : k = 26 ∨ k = 27 := by omega
        rcases this with h | h
        · subst h
          have : tg 26 = 6 := by decide
          omega
        · subst h
          have : tg 27 = 6 := by decide
          omega
      · exact Ok.ifT (by rw [hb]; rfl) (pop (by omega))
  · rintro (S1 | S1) h
    · exact Ok.ret h
    · exact Ok.ret h
end RFO
