/-! ===== the class goes through a condition: one token ===== -/
def lfS (lf : Option (Nat × CD)) : List Nat := match lf with
  | none => []
  | some x => [28 + x.1]
def lfC (lf : Option (Nat × CD)) : CD := match lf with
  | none => []
  | some x => x.2
def onS (p : Bool) (k : Nat) : List Nat := if p = true then [k] else []
/-- what waits below this expression's operators -/
def lowS (q : CQ) : List Nat := lfS q.lf ++ (List.replicate q.ng 15 ++ (onS q.pA 14 ++ onS q.pO 13))
def flS (q : CQ) : List Nat := q.s ++ lowS q
def stS (q : CQ) : CD := q.E ++ (lfC q.lf ++ q.o)
theorem flS_mk (y : Nat × Nat) (b g : Bool) (ng : Nat) (lf : Option (Nat × CD)) (o : CD) (s : List Nat) (orr : Bool) (ls : List LT) (E : CD) (pO pA : Bool) : flS (mkQ y b g ng lf o s orr ls E pO pA) = s ++ (lfS lf ++ (List.replicate ng 15 ++ (onS pA 14 ++ onS pO 13))) := rfl
theorem stS_mk (y : Nat × Nat) (b g : Bool) (ng : Nat) (lf : Option (Nat × CD)) (o : CD) (s : List Nat) (orr : Bool) (ls : List LT) (E : CD) (pO pA : Bool) : stS (mkQ y b g ng lf o s orr ls E pO pA) = E ++ (lfC lf ++ o) := rfl
theorem flS_q (q : CQ) : flS q = q.s ++ lowS q := rfl
theorem stS_q (q : CQ) : stS q = q.E ++ (lfC q.lf ++ q.o) := rfl
theorem lowS_q (q : CQ) : lowS q = lfS q.lf ++ (List.replicate q.ng 15 ++ (onS q.pA 14 ++ onS q.pO 13)) := rfl
theorem onS_len (p : Bool) (k : Nat) : (onS p k).length = if p = true then 1 else 0 := by cases p <;> rfl
theorem lf_len (lf : Option (Nat × CD)) : (lfS lf).length + (lfC lf).length = lfN lf := by
  cases lf with
  | none => rfl
  | some x => show 1 + x.2.length = x.2.length + 1; omega
theorem fl_len (q : CQ) : (flS q).length + (stS q).length = totQ q := by
  have := lf_len q.lf
  unfold flS stS lowS totQ
  simp only [List.length_append, List.length_replicate, onS_len]
  omega
theorem relA {t : Nat} {a b : List Nat} (h : ∀ k ∈ a, t ≤ tg k) : relO t (a ++ b) = a ++ relO t b ∧ relR t (a ++ b) = relR t b := by
  induction a with
  | nil => exact ⟨rfl, rfl⟩
  | cons k r ih =>
    have h1 := h k (List.mem_cons_self ..)
    obtain ⟨h2, h3⟩ := ih (fun j hj => h j (List.mem_cons_of_mem _ hj))
    rw [List.cons_append, relO, relR, if_pos h1, if_pos h1, h2, h3]
    exact ⟨rfl, rfl⟩
theorem relB {t : Nat} {b : List Nat} (h : ∀ k ∈ b, tg k < t) : relO t b = [] ∧ relR t b = b := by
  cases b with
  | nil => exact ⟨rfl, rfl⟩
  | cons k r =>
    have h1 := h k (List.mem_cons_self ..)
    rw [relO, relR, if_neg (by omega), if_neg (by omega)]
    exact ⟨rfl, rfl⟩
theorem relC {t : Nat} {s b : List Nat} (h : ∀ k ∈ b, tg k < t) : relO t (s ++ b) = relO t s ∧ relR t (s ++ b) = relR t s ++ b := by
  induction s with
  | nil => exact relB h
  | cons k r ih =>
    rw [List.cons_append, relO, relR, relO, relR]
    by_cases c : t ≤ tg k
    · rw [if_pos c, if_pos c, if_pos c, if_pos c, ih.1, ih.2]; exact ⟨rfl, rfl⟩
    · rw [if_neg c, if_neg c, if_neg c, if_neg c]; exact ⟨rfl, rfl⟩
theorem relD {s b : List Nat} (h : 0 < opn s) : relO 1 (s ++ b) = relO 1 s ∧ relR 1 (s ++ b) = relR 1 s ++ b := by
  induction s with
  | nil => exact absurd h (by decide)
  | cons k r ih =>
    rw [List.cons_append, relO, relR, relO, relR]
    by_cases c : 1 ≤ tg k
    · have e : k ≠ 32 := fun e => by
        subst e
        have : tg 32 = 0 := by decide
        omega
      rw [opn, if_neg e] at h
      rw [if_pos c, if_pos c, if_pos c, if_pos c, (ih h).1, (ih h).2]; exact ⟨rfl, rfl⟩
    · rw [if_neg c, if_neg c, if_neg c, if_neg c]; exact ⟨rfl, rfl⟩
theorem low_mem {q : CQ} (hq : ∀ how l, q.lf = some (how, l) → how ≤ 3 ∧ wfC 16 l 0 1) : ∀ k ∈ lowS q, (13 ≤ k ∧ k ≤ 15) ∨ (28 ≤ k ∧ k ≤ 31) := by
  intro k hk
  unfold lowS at hk
  rcases List.mem_append.mp hk with h | h
  · unfold lfS at h
    cases e : q.lf with
    | none => rw [e] at h; cases h
    | some x =>
      rw [e] at h
      have h1 := List.mem_singleton.mp h
      have h2 := hq x.1 x.2 e
      right; omega
  rcases List.mem_append.mp h with h | h
  · have := (List.mem_replicate.mp h).2
    left; omega
  rcases List.mem_append.mp h with h | h
  · unfold onS at h
    split at h
    · have := List.mem_singleton.mp h; left; omega
    · cases h
  · unfold onS at h
    split at h
    · have := List.mem_singleton.mp h; left; omega
    · cases h
theorem tg_low {k : Nat} (h : (13 ≤ k ∧ k ≤ 15) ∨ (28 ≤ k ∧ k ≤ 31)) : 1 ≤ tg k ∧ tg k ≤ 4 := by
  have : ∀ j : Fin 32, ((13 ≤ j.val ∧ j.val ≤ 15) ∨ (28 ≤ j.val ∧ j.val ≤ 31)) → 1 ≤ tg j.val ∧ tg j.val ≤ 4 := by decide
  exact this ⟨k, by omega⟩ h
theorem fl_mem {q : CQ} (hs : SK q.s) (hq : ∀ how l, q.lf = some (how, l) → how ≤ 3 ∧ wfC 16 l 0 1) : ∀ k ∈ flS q, k < 36 ∧ k ≠ 21 := by
  intro k hk
  rcases List.mem_append.mp hk with h | h
  · have := SK_mem hs k h; omega
  · have := low_mem hq k h; omega
/-- where it is in a condition, by the class -/
def CQC (l N0 : Nat) (q : CQ) (S : ST) : Prop := CY q.y S ∧ S.1 15 3 = nI (flS q).length ∧ Stk (flS q) S ∧ S.1 l 7 = nI (N0 + (stS q).length) ∧ StpC l N0 (stS q) S ∧ (q.y.1 = 0 → S.1 15 6 = nI (opn q.s) ∧ S.1 15 7 = bI q.b ∧ S.1 15 8 = bI q.g ∧ S.1 15 9 = bI q.lf.isSome)
def XT8 (a j : Nat) : Bool := a == 15 && ((j == 4 || j == 5) || (j == 6 || j == 8))
section CFD
variable {n L l N0 b0 : Nat} {c : Nat → Nat} {S : ST}
theorem XT8_Gr {z : Nat} {S S' : ST} (h : Df XT8 S S') : Df (XGr l z) S S' := h.mono (fun a j hx => by
  simp only [XGr, XT8, Bool.or_eq_false_iff, Bool.and_eq_false_iff, beq_eq_false_iff_ne, Bool.not_eq_false', decide_eq_true_eq] at hx ⊢
  omega)
theorem CTk.gr {z : Nat} {S S' : ST} (hl : l = 35 ∨ l = 60) (h : CTk c L S) (d : Df (XGr l z) S S') : CTk c L S' := h.d2 (D2.of (Y := YN) d) (fun a j hx => by
  simp only [XSc, Bool.or_eq_true, Bool.and_eq_true, beq_iff_eq] at hx
  simp only [XGr, Bool.or_eq_false_iff, Bool.and_eq_false_iff, beq_eq_false_iff_ne]
  omega) rfl
theorem c_tailO {k : Nat} {y : Nat × Nat} (hT : CTk c L S) (hy : CY y S) (hw : yW (tkK c L) y) (hk : k < 36) :
    Ok (jn (fun (S2 : ST) => jn (fun (S3 : ST) => (E_X2_take n S3 (nI k)).bind fun S5 => some S5) fun j6 => if nI k = (15 : Int32) then j6 S2 else lets (upI S2 15 8 (1 : Int32)) fun (S8 : ST) => j6 S8) fun j9 => if nI k = (32 : Int32) then lets (upI S 15 6 ((S.1 15 6) + (1 : Int32))) fun (S11 : ST) => j9 S11 else j9 S)
      (fun S' => Df XT8 S S' ∧ CY (tk (tkK c L) k y) S' ∧ S'.1 15 6 = (if k = 32 then S.1 15 6 + 1 else S.1 15 6) ∧ S'.1 15 8 = (if k = 15 then S.1 15 8 else 1)) := by
  have tkd : ∀ S1 S2 : ST, Df XTk S1 S2 → Df XT8 S1 S2 := fun S1 S2 h => h.mono (fun a j hx => by
    simp only [XT8, XTk, Bool.or_eq_false_iff, Bool.and_eq_false_iff, beq_eq_false_iff_ne] at hx ⊢
    omega)
  have step : ∀ S1 : ST, Df XT8 S S1 → CTk c L S1 → CY y S1 → Ok ((E_X2_take n S1 (nI k)).bind fun S5 => some S5) (fun S' => Df XT8 S S' ∧ CY (tk (tkK c L) k y) S' ∧ S'.1 15 6 = S1.1 15 6 ∧ S'.1 15 8 = S1.1 15 8) := fun S1 d1 hT1 hy1 => by
    obtain ⟨S2, e1, d2, y2⟩ := c_take (n := n) hT1 hy1 hw hk
    apply Ok.step e1
    exact Ok.ret ⟨d1.trans (tkd _ _ d2), y2, d2.2 _ _ rfl, d2.2 _ _ rfl⟩
  have hTd : ∀ S1 : ST, Df XT8 S S1 → CTk c L S1 := fun S1 d => hT.d2 (D2.of (Y := YN) d) (fun a j hx => by
    simp only [XSc, Bool.or_eq_true, Bool.and_eq_true, beq_iff_eq] at hx
    simp only [XT8, Bool.and_eq_false_iff, beq_eq_false_iff_ne]
    omega) rfl
  simp only [jn, lets]
  by_cases c1 : k = 32
  · subst c1
    refine Ok.ifT rfl (Ok.ifF (by decide) ?_)
    have d1 : Df XT8 S (upI (upI S 15 6 ((S.1 15 6) + (1 : Int32))) 15 8 (1 : Int32)) := ((Df.refl _ _).up rfl).up rfl
    refine (step _ d1 (hTd _ d1) ⟨?_, ?_⟩).mono (fun S' h => ⟨h.1, h.2.1, ?_, ?_⟩)
    · rw [upI_at, if_neg (by omega), upI_at, if_neg (by omega)]; exact hy.1
    · rw [upI_at, if_neg (by omega), upI_at, if_neg (by omega)]; exact hy.2
    · rw [if_pos rfl, h.2.2.1, upI_at, if_neg (by omega), upI_at, if_pos ⟨rfl, rfl⟩]
    · rw [if_neg (by decide), h.2.2.2, upI_at, if_pos ⟨rfl, rfl⟩]
  refine Ok.ifF (fun z => c1 ((nI_eq (b := 32) (by omega) (by decide)).mp z)) ?_
  by_cases c2 : k = 15
  · subst c2
    refine Ok.ifT rfl ?_
    refine (step S (Df.refl _ _) hT hy).mono (fun S' h => ⟨h.1, h.2.1, ?_, ?_⟩)
    · rw [if_neg (by decide)]; exact h.2.2.1
    · rw [if_pos rfl]; exact h.2.2.2
  refine Ok.ifF (fun z => c2 ((nI_eq (b := 15) (by omega) (by decide)).mp z)) ?_
  have d1 : Df XT8 S (upI S 15 8 (1 : Int32)) := (Df.refl _ _).up rfl
  refine (step _ d1 (hTd _ d1) ⟨?_, ?_⟩).mono (fun S' h => ⟨h.1, h.2.1, ?_, ?_⟩)
  · rw [upI_at, if_neg (by omega)]; exact hy.1
  · rw [upI_at, if_neg (by omega)]; exact hy.2
  · rw [if_neg c1, h.2.2.1, upI_at, if_neg (by omega)]
  · rw [if_neg c2, h.2.2.2, upI_at, if_pos ⟨rfl, rfl⟩]
/-- a fault at this token -/
theorem CQC.flt {S S' : ST} {q : CQ} {f : Nat} (hl : l = 35 ∨ l = 60) (h : CQC l N0 q S) (d : Df XT8 S S') (hy : CY (f, q.y.2) S') (hf : f ≠ 0) : CQC l N0 (mkQ (f, q.y.2) q.b q.g q.ng q.lf q.o q.s q.orr q.ls q.E q.pO q.pA) S' := by
  obtain ⟨h1, h2, h3, h4, h5, h6⟩ := h
  have o : ∀ a j, a ≠ 15 → S'.1 a j = S.1 a j := fun a j ha => d.2 _ _ (by simp only [XT8, Bool.and_eq_false_iff, beq_eq_false_iff_ne]; omega)
  refine ⟨hy, ?_, ?_, ?_, ?_, fun z => absurd z hf⟩
  · rw [d.2 15 3 rfl]; exact h2
  · exact h3.fr (fun j _ => o _ _ (by omega))
  · rw [o _ _ (by omega)]; exact h4
  · exact h5.fr (fun j _ _ => ⟨o _ _ (by omega), o _ _ (by omega)⟩)
theorem c_operand {q : CQ} (hn : 30000 ≤ n) (hT : CTk c L S) (hl : l = 35 ∨ l = 60) (hQ : CQI (tkK c L) b0 q) (hN : N0 + 2 ≤ b0) (h0 : q.y.1 = 0) (hb : q.b = false) (hC : CQC l N0 q S) :
    Ok (E_X2_takeOperand n S l (nI (tkK c L q.y.2))) (fun S' => Df (XGr l N0) S S' ∧ CQC l N0 (cst (tkK c L) (tkV c L) q) S') := by
  have hC0 := hC
  obtain ⟨⟨y1, y2⟩, s1, s2, p1, p2, fl⟩ := hC
  obtain ⟨f6, f7, f8, f9⟩ := fl h0
  obtain ⟨hY, h4, h5, h6, h7, h8, h9, h10, h11, h12, h13, h14⟩ := hQ
  have hlen := fl_len q
  have hkl := tkK_le (c := c) (L := L) (j := q.y.2)
  have hy2 : q.y.2 ≤ 400 := hY.2.1
  have fl400 : (flS q).length < 400 := by omega
  have st400 : N0 + (stS q).length < 400 := by omega
  have hV : tkK c L q.y.2 ≠ 35 → E_X9_valueAt n S (nI q.y.2) = some (nL (tkV c L q.y.2)) := fun h => c_value hT hy2 hY.2.2 h
  generalize hk : tkK c L q.y.2 = k at *
  have ne : ∀ j, j < 100 → k ≠ j → ¬ nI k = nI j := fun j hj h z => h ((nI_eq (by omega) (by omega)).mp z)
  have ecst := cst.eq_1 (tkK c L) (tkV c L) q
  rw [if_pos hb, hk] at ecst
  -- a fault here
  have fault : ∀ f, f ≠ 0 → f < 3 → cst (tkK c L) (tkV c L) q = mkQ (f, q.y.2) q.b q.g q.ng q.lf q.o q.s q.orr q.ls q.E q.pO q.pA → Ok (jn (fun (S2 : ST) => jn (fun (S3 : ST) => (E_X2_take n S3 (nI k)).bind fun S5 => some S5) fun j6 => if nI k = (15 : Int32) then j6 S2 else lets (upI S2 15 8 (1 : Int32)) fun (S8 : ST) => j6 S8) fun j9 => if nI k = (32 : Int32) then lets (upI (upI S 15 5 (nI f)) 15 6 (((upI S 15 5 (nI f)).1 15 6) + (1 : Int32))) fun (S11 : ST) => j9 S11 else j9 (upI S 15 5 (nI f))) (fun S' => Df (XGr l N0) S S' ∧ CQC l N0 (cst (tkK c L) (tkV c L) q) S') := fun f hf hf3 ef => by
    have d1 : Df XT8 S (upI S 15 5 (nI f)) := (Df.refl _ _).up rfl
    have hT1 : CTk c L (upI S 15 5 (nI f)) := hT.gr hl (XT8_Gr (z := 0) d1)
    have hy1 : CY (f, q.y.2) (upI S 15 5 (nI f)) := ⟨by rw [upI_at, if_neg (by omega)]; exact y1, by rw [upI_at, if_pos ⟨rfl, rfl⟩]⟩
    refine (c_tailO (n := n) (k := k) hT1 hy1 ⟨by show f ≤ 2; omega, hY.2⟩ (by omega)).mono (fun S' h => ⟨XT8_Gr (d1.trans h.1), ?_⟩)
    rw [ef]
    refine hC0.flt hl (d1.trans h.1) ?_ hf
    have := h.2.1
    rw [tk_f (show (f, q.y.2).1 ≠ 0 from hf)] at this
    exact this
  -- an operator that is pushed
  have push : k = 15 ∨ k = 32 → (∀ S1 : ST, Df (XGr l N0) S S1 → CY (tk (tkK c L) k q.y) S1 → S1.1 15 3 = nI (k :: flS q).length → Stk (k :: flS q) S1 → (∀ a j, a ≠ 17 → (a ≠ 15 ∨ j = 7 ∨ j = 9) → S1.1 a j = S.1 a j) → S1.1 15 6 = (if k = 32 then S.1 15 6 + 1 else S.1 15 6) → S1.1 15 8 = (if k = 15 then S.1 15 8 else 1) → CQC l N0 (cst (tkK c L) (tkV c L) q) S1) →
      Ok ((E_X2_push n S (nI k)).bind fun S14 => jn (fun (S2 : ST) => jn (fun (S3 : ST) => (E_X2_take n S3 (nI k)).bind fun S5 => some S5) fun j6 => if nI k = (15 : Int32) then j6 S2 else lets (upI S2 15 8 (1 : Int32)) fun (S8 : ST) => j6 S8) fun j9 => if nI k = (32 : Int32) then lets (upI S14 15 6 ((S14.1 15 6) + (1 : Int32))) fun (S11 : ST) => j9 S11 else j9 S14) (fun S' => Df (XGr l N0) S S' ∧ CQC l N0 (cst (tkK c L) (tkV c L) q) S') := fun hk2 fin => by
    obtain ⟨S1, e1, d1, a1, a2, a3⟩ := c_push (n := n) (l := l) (z := N0) (k := k) fl400 s1 s2
    apply Ok.step e1
    have hT1 := hT.gr hl d1
    have hy1 : CY q.y S1 := ⟨by rw [a3 _ _ (by omega) (by omega)]; exact y1, by rw [a3 _ _ (by omega) (by omega)]; exact y2⟩
    refine (c_tailO (n := n) (k := k) hT1 hy1 hY (by omega)).mono (fun S' h => ⟨d1.trans (XT8_Gr h.1), ?_⟩)
    have o : ∀ a j, (a ≠ 15 ∨ j = 7 ∨ j = 9 ∨ j = 3) → S'.1 a j = S1.1 a j := fun a j ha => h.1.2 _ _ (by simp only [XT8, Bool.and_eq_false_iff, Bool.or_eq_false_iff, beq_eq_false_iff_ne]; omega)
    refine fin S' (d1.trans (XT8_Gr h.1)) h.2.1 ?_ ?_ ?_ ?_ ?_
    · rw [o _ _ (by omega)]; exact a1
    · exact a2.fr (fun j _ => o _ _ (by omega))
    · intro a j ha hb
      rw [o _ _ (by omega), a3 _ _ ha (by omega)]
    · rw [h.2.2.1, a3 _ _ (by omega) (by omega)]
    · rw [h.2.2.2, a3 _ _ (by omega) (by omega)]
  unfold E_X2_takeOperand
  apply Ok.jnU
  apply Ok.jnU
  apply Ok.jnU
  by_cases c1 : k = 15 ∧ q.g = false
  · rw [if_pos c1] at ecst
    refine Ok.ifT (by rw [c1.1]; rfl) (Ok.ifT (by rw [f8, c1.2]; rfl) ?_)
    refine push (Or.inl c1.1) (fun S1 d1 g1 g2 g3 g4 g5 g6 => ?_)
    have e15 := c1.1
    have hg : q.g = false := c1.2
    have hs : q.s = [] := by
      cases hs : q.s with
      | nil => rfl
      | cons a r => exact absurd (h14 (by rw [hs]; intro z; cases z)) (by rw [hg]; decide)
    have hlf : q.lf = none := by
      cases hf : q.lf with
      | none => rfl
      | some x => exact absurd (h12 (by rw [hf]; intro z; cases z)) (by rw [hg]; decide)
    have efl : flS (mkQ (tk (tkK c L) k q.y) q.b q.g (q.ng + 1) q.lf q.o q.s q.orr q.ls q.E q.pO q.pA) = k :: flS q := by
      rw [flS_mk, flS_q, lowS_q, hs, hlf, e15]; rfl
    rw [ecst]
    refine ⟨g1, by rw [efl]; exact g2, by rw [efl]; exact g3, ?_, p2.fr (fun j _ _ => ⟨g4 _ _ (by omega) (by omega), g4 _ _ (by omega) (by omega)⟩), fun _ => ⟨?_, ?_, ?_, ?_⟩⟩
    · rw [g4 _ _ (by omega) (by omega)]; exact p1
    · rw [g5, if_neg (by omega)]; exact f6
    · rw [g4 _ _ (by omega) (by omega)]; exact f7
    · rw [g6, if_pos e15]; exact f8
    · rw [g4 _ _ (by omega) (by omega)]; exact f9
  rw [if_neg c1] at ecst
  have to31 : ∀ {A B : Option ST} {R : ST → Prop}, Ok B R → Ok (if nI k = (15 : Int32) then (if S.1 15 8 = 0 then A else B) else B) R := fun hB => by
    by_cases z : k = 15
    · refine Ok.ifT (by rw [z]; rfl) (Ok.ifF ?_ hB)
      rw [f8]
      intro z2
      rw [bI_z] at z2
      exact c1 ⟨z, z2⟩
    · exact Ok.ifF (ne 15 (by decide) z) hB
  refine to31 ?_
  apply Ok.jnU
  by_cases c2 : k = 32
  · rw [if_pos c2] at ecst
    refine Ok.ifT (by rw [c2]; rfl) ?_
    by_cases c3 : opn q.s < 6
    · rw [if_pos c3] at ecst
      refine Ok.ifF (by rw [f6]; exact nI_ge (b := 6) c3 (by decide)) ?_
      refine push (Or.inr c2) (fun S1 d1 g1 g2 g3 g4 g5 g6 => ?_)
      have efl : flS (mkQ (tk (tkK c L) k q.y) q.b true q.ng q.lf q.o (32 :: q.s) q.orr q.ls q.E q.pO q.pA) = k :: flS q := by
        rw [c2]; rfl
      rw [ecst]
      refine ⟨g1, by rw [efl]; exact g2, by rw [efl]; exact g3, ?_, p2.fr (fun j _ _ => ⟨g4 _ _ (by omega) (by omega), g4 _ _ (by omega) (by omega)⟩), fun _ => ⟨?_, ?_, ?_, ?_⟩⟩
      · rw [g4 _ _ (by omega) (by omega)]; exact p1
      · rw [g5, if_pos c2, f6, nI_1]
        show nI _ = nI (opn (32 :: q.s))
        rw [opn, if_pos rfl]
      · rw [g4 _ _ (by omega) (by omega)]; exact f7
      · rw [g6, if_neg (by omega)]; rfl
      · rw [g4 _ _ (by omega) (by omega)]; exact f9
    · rw [if_neg c3] at ecst
      refine Ok.ifT (by rw [f6]; exact nI_le (a := 6) (by omega) (by omega)) ?_
      refine Ok.ifT (by rw [c2]; rfl) ?_
      apply Ok.letsU
      exact fault 2 (by decide) (by decide) ecst
  rw [if_neg c2] at ecst
  refine Ok.ifF (ne 32 (by decide) c2) ?_
  refine Ok.ifF (ne 32 (by decide) c2) ?_
  apply Ok.jnU
  by_cases c3 : k = 21 ∨ (16 ≤ k ∧ k ≤ 19)
  · rw [if_pos c3] at ecst
    have hop : Ok ((E_X9_valueAt n S (S.1 15 4)).bind fun v18 => (E_X4_put n S l (nI k) (v18).toInt32).bind fun S20 => lets (upI S20 15 7 (1 : Int32)) fun (S21 : ST) => jn (fun (S2 : ST) => jn (fun (S3 : ST) => (E_X2_take n S3 (nI k)).bind fun S5 => some S5) fun j6 => if nI k = (15 : Int32) then j6 S2 else lets (upI S2 15 8 (1 : Int32)) fun (S8 : ST) => j6 S8) fun j9 => if nI k = (32 : Int32) then lets (upI S21 15 6 ((S21.1 15 6) + (1 : Int32))) fun (S11 : ST) => j9 S11 else j9 S21) (fun S' => Df (XGr l N0) S S' ∧ CQC l N0 (cst (tkK c L) (tkV c L) q) S') := by
      rw [y1]
      apply Ok.step (hV (by omega))
      rw [nI_long]
      obtain ⟨S1, e1, d1, a1, a2, a3⟩ := c_lput (n := n) (k := k) (v := (cod (tkV c L) k q.y.2).2) (x := nI (tkV c L q.y.2)) p1 st400 (by omega) (fun z => by
        show nI _ = nI (if k = 21 then _ else 0)
        rw [if_pos z])
      apply Ok.step e1
      apply Ok.letsU
      have x7 : XGr l N0 15 7 = true := by simp [XGr]
      have d2 : Df (XGr l N0) S (upI S1 15 7 (1 : Int32)) := (XGr.mono (by omega) d1).up x7
      have hT1 := hT.gr hl d2
      have o1 : ∀ a j, a ≠ l → a ≠ l + 1 → a ≠ l + 2 → (a ≠ 15 ∨ j ≠ 7) → (upI S1 15 7 (1 : Int32)).1 a j = S.1 a j := fun a j h1 h2 h3 h4 => by
        rw [upI_at, if_neg (by omega)]; exact a3 a j h1 h2 h3
      have hy1 : CY q.y (upI S1 15 7 (1 : Int32)) := ⟨by rw [o1 _ _ (by omega) (by omega) (by omega) (by omega)]; exact y1, by rw [o1 _ _ (by omega) (by omega) (by omega) (by omega)]; exact y2⟩
      refine (c_tailO (n := n) (k := k) hT1 hy1 hY (by omega)).mono (fun S' h => ⟨d2.trans (XT8_Gr h.1), ?_⟩)
      have o : ∀ a j, (a ≠ 15 ∨ j = 7 ∨ j = 9 ∨ j = 3) → S'.1 a j = (upI S1 15 7 (1 : Int32)).1 a j := fun a j ha => h.1.2 _ _ (by simp only [XT8, Bool.and_eq_false_iff, Bool.or_eq_false_iff, beq_eq_false_iff_ne]; omega)
      have est : stS (mkQ (tk (tkK c L) k q.y) true true q.ng q.lf (q.o ++ [cod (tkV c L) k q.y.2]) q.s q.orr q.ls q.E q.pO q.pA) = stS q ++ [cod (tkV c L) k q.y.2] := by
        rw [stS_mk, stS_q]
        simp only [List.append_assoc]
      rw [ecst]
      refine ⟨h.2.1, ?_, ?_, ?_, ?_, fun _ => ⟨?_, ?_, ?_, ?_⟩⟩
      · rw [o _ _ (by omega), o1 _ _ (by omega) (by omega) (by omega) (by omega)]; exact s1
      · exact s2.fr (fun j _ => by rw [o _ _ (by omega), o1 _ _ (by omega) (by omega) (by omega) (by omega)])
      · rw [est, o _ _ (by omega), upI_at, if_neg (by omega), a1, List.length_append]; rfl
      · rw [est]
        refine StpC.app (p2.fr (fun j h1 h2 => ?_)) ?_
        · have hx1 : XGr l (N0 + (stS q).length) (l + 1) j = false := by
            simp only [XGr, Bool.or_eq_false_iff, Bool.and_eq_false_iff, beq_eq_false_iff_ne, decide_eq_false_iff_not]
            omega
          have hx2 : XGr l (N0 + (stS q).length) (l + 2) j = false := by
            simp only [XGr, Bool.or_eq_false_iff, Bool.and_eq_false_iff, beq_eq_false_iff_ne, decide_eq_false_iff_not]
            omega
          rw [o _ _ (by omega), o _ _ (by omega), upI_at, if_neg (by omega), upI_at, if_neg (by omega)]
          exact ⟨d1.2 _ _ hx1, d1.2 _ _ hx2⟩
        · exact StpC.fr (A := [cod (tkV c L) k q.y.2]) a2 (fun j _ _ => ⟨by rw [o _ _ (by omega), upI_at, if_neg (by omega)], by rw [o _ _ (by omega), upI_at, if_neg (by omega)]⟩)
      · rw [h.2.2.1, if_neg c2, o1 _ _ (by omega) (by omega) (by omega) (by omega)]; exact f6
      · rw [o _ _ (by omega), upI_at, if_pos ⟨rfl, rfl⟩]; rfl
      · rw [h.2.2.2, if_neg (by omega)]; rfl
      · rw [o _ _ (by omega), o1 _ _ (by omega) (by omega) (by omega) (by omega)]; exact f9
    by_cases g : k = 21
    · exact Ok.ifT (by rw [g]; rfl) hop
    · refine Ok.ifF (ne 21 (by decide) g) ?_
      apply Ok.jnU
      refine Ok.ifF (nI_nlt (b := 16) (by omega) (by omega)) ?_
      exact Ok.ifF (nI_nlt (a := 19) (by omega) (by omega)) hop
  rw [if_neg c3] at ecst
  refine Ok.ifF (ne 21 (by decide) (by omega)) ?_
  apply Ok.jnU
  have hf1 : Ok (lets (upI S 15 5 (1 : Int32)) fun (S24 : ST) => jn (fun (S2 : ST) => jn (fun (S3 : ST) => (E_X2_take n S3 (nI k)).bind fun S5 => some S5) fun j6 => if nI k = (15 : Int32) then j6 S2 else lets (upI S2 15 8 (1 : Int32)) fun (S8 : ST) => j6 S8) fun j9 => if nI k = (32 : Int32) then lets (upI S24 15 6 ((S24.1 15 6) + (1 : Int32))) fun (S11 : ST) => j9 S11 else j9 S24) (fun S' => Df (XGr l N0) S S' ∧ CQC l N0 (cst (tkK c L) (tkV c L) q) S') := by
    apply Ok.letsU
    exact fault 1 (by decide) (by decide) ecst
  by_cases g : k < 16
  · exact Ok.ifT (nI_lt (b := 16) g (by decide)) hf1
  · refine Ok.ifF (nI_nlt (b := 16) (by omega) (by omega)) ?_
    exact Ok.ifT (nI_lt (a := 19) (by omega) (by omega)) hf1
theorem Ok.if2 {β : Type} {p q : Prop} {dp : Decidable p} {dq : Decidable q} {A B : Option β} {R : β → Prop} (h : p → q) (k : Ok B R) : Ok (if p then (if q then B else A) else B) R := by
  by_cases c : p
  · rw [if_pos c, if_pos (h c)]; exact k
  · rw [if_neg c]; exact k
theorem Ok.if3 {β : Type} {p q r : Prop} {dp : Decidable p} {dq : Decidable q} {dr : Decidable r} {A B : Option β} {R : β → Prop} (h : ¬ p → q → ¬ r) (k : Ok B R) : Ok (if p then B else if q then (if r then A else B) else B) R := by
  by_cases c : p
  · rw [if_pos c]; exact k
  · rw [if_neg c]
    by_cases c2 : q
    · rw [if_pos c2, if_neg (h c c2)]; exact k
    · rw [if_neg c2]; exact k
theorem Ok.if4 {β : Type} {p p' q r : Prop} {dp : Decidable p} {dp' : Decidable p'} {dq : Decidable q} {dr : Decidable r} {A B : Option β} {R : β → Prop} (h : p ∨ p' → q → r) (k : Ok B R) : Ok (if p then (if q then (if r then B else A) else B) else if p' then (if q then (if r then B else A) else B) else B) R := by
  have h2 : p ∨ p' → Ok (if q then (if r then B else A) else B) R := fun c => by
    by_cases c2 : q
    · rw [if_pos c2, if_pos (h c c2)]; exact k
    · rw [if_neg c2]; exact k
  by_cases c : p
  · rw [if_pos c]; exact h2 (Or.inl c)
  · rw [if_neg c]
    by_cases c2 : p'
    · rw [if_pos c2]; exact h2 (Or.inr c2)
    · rw [if_neg c2]; exact k
theorem opsC_rep (ng : Nat) : opsC (List.replicate ng 15) = List.replicate ng (15, 0) := by unfold opsC; rw [List.map_replicate]
theorem opsC_and (p : Bool) : opsC (onS p 14) = andS p := by cases p <;> rfl
theorem opsC_or (p : Bool) : opsC (onS p 13) = orS p := by cases p <;> rfl
theorem lf_isSome {lf : Option (Nat × CD)} : (bI lf.isSome = 0) = (lf = none) := by
  cases lf with
  | none => exact propext ⟨fun _ => rfl, fun _ => rfl⟩
  | some x => exact propext ⟨fun z => absurd (show (1 : Int32) = 0 from z) (by decide), fun z => by cases z⟩
theorem c_behind {q : CQ} (hn : 30000 ≤ n) (hT : CTk c L S) (hl : l = 35 ∨ l = 60) (hQ : CQI (tkK c L) b0 q) (hN : N0 + 2 ≤ b0) (h0 : q.y.1 = 0) (hb : q.b = true) (hC : CQC l N0 q S) :
    Ok (E_X2_takeBehindOperand n S l (nI (tkK c L q.y.2))) (fun S' => Df (XGr l N0) S S' ∧ CQC l N0 (cst (tkK c L) (tkV c L) q) S') := by
  have hC0 := hC
  obtain ⟨⟨y1, y2⟩, s1, s2, p1, p2, fl⟩ := hC
  obtain ⟨f6, f7, f8, f9⟩ := fl h0
  obtain ⟨hY, h4, h5, h6, h7, h8, h9, h10, h11, h12, h13, h14⟩ := hQ
  have hlen := fl_len q
  have hmem := fl_mem h4 h10
  have hlow := low_mem h10
  have hkl := tkK_le (c := c) (L := L) (j := q.y.2)
  have hy2 : q.y.2 ≤ 400 := hY.2.1
  have fl400 : (flS q).length < 399 := by omega
  have st400 : N0 + (stS q).length < 400 := by omega
  have hsl : q.s.length ≤ 20 := by
    have := SK_len h4
    have := tpw_le h4
    omega
  generalize hk : tkK c L q.y.2 = k at *
  have ne : ∀ j, j < 100 → k ≠ j → ¬ nI k = nI j := fun j hj h z => h ((nI_eq (by omega) (by omega)).mp z)
  have ecst := cst.eq_1 (tkK c L) (tkV c L) q
  rw [if_neg (show ¬ q.b = false by rw [hb]; decide), hk] at ecst
  have faultB : cst (tkK c L) (tkV c L) q = mkQ (1, q.y.2) q.b q.g q.ng q.lf q.o q.s q.orr q.ls q.E q.pO q.pA → Ok (lets (upI S 15 5 (1 : Int32)) fun (S23 : ST) => (E_X2_take n S23 (nI k)).bind fun S3 => some S3) (fun S' => Df (XGr l N0) S S' ∧ CQC l N0 (cst (tkK c L) (tkV c L) q) S') := fun ef => by
    apply Ok.letsU
    have d1 : Df XT8 S (upI S 15 5 (1 : Int32)) := (Df.refl _ _).up rfl
    have hT1 : CTk c L (upI S 15 5 (1 : Int32)) := hT.gr hl (XT8_Gr (z := 0) d1)
    have hy1 : CY (1, q.y.2) (upI S 15 5 (1 : Int32)) := ⟨by rw [upI_at, if_neg (by omega)]; exact y1, by rw [upI_at, if_pos ⟨rfl, rfl⟩]; rfl⟩
    obtain ⟨S2, e1, d2, g2⟩ := c_take (n := n) (k := k) hT1 hy1 ⟨(by decide : (1 : Nat) ≤ 2), hY.2⟩ (by omega)
    apply Ok.step e1
    have d2' : Df XT8 S S2 := d1.trans (d2.mono (fun a j hx => by
      simp only [XT8, XTk, Bool.or_eq_false_iff, Bool.and_eq_false_iff, beq_eq_false_iff_ne] at hx ⊢
      omega))
    refine Ok.ret ⟨XT8_Gr d2', ?_⟩
    rw [ef]
    refine hC0.flt hl d2' ?_ (by decide)
    rw [tk_f (show (1, q.y.2).1 ≠ 0 from Nat.one_ne_zero)] at g2
    exact g2
  -- a pile is released, an operator pushed
  have relpush : ∀ (t : Nat) (A B : List Nat), 1 ≤ t → t ≤ 7 → relO t (flS q) = A → relR t (flS q) = B → ∀ (cont : ST → Option ST) (R : ST → Prop),
      (∀ S2, Df (XGr l N0) S S2 → CTk c L S2 → CY q.y S2 → S2.1 15 3 = nI (k :: B).length → Stk (k :: B) S2 → S2.1 l 7 = nI (N0 + (stS q ++ opsC A).length) → StpC l N0 (stS q ++ opsC A) S2 → (∀ j, j ≠ 3 → S2.1 15 j = S.1 15 j) → Ok (cont S2) R) →
      Ok ((E_X2_release n S l (nI t)).bind fun S8 => (E_X2_push n S8 (nI k)).bind cont) R := fun t A B ht ht2 eA eB cont R hk2 => by
    have hAB := rel_len t (flS q)
    obtain ⟨S1, e1, d1, a1, a2, a3, a4, a5⟩ := c_release (n := n) (t := t) hn ht ht2 hl (by omega) s1 s2 hmem p1 (by omega)
    rw [eA] at a3 a4 hAB
    rw [eB] at a1 a2 hAB
    apply Ok.step e1
    obtain ⟨S2, e2, d2, b1, b2, b3⟩ := c_push (n := n) (l := l) (z := N0) (k := k) (by omega) a1 a2
    apply Ok.step e2
    have dd : Df (XGr l N0) S S2 := (XGr.mono (by omega) d1).trans d2
    refine hk2 S2 dd (hT.gr hl dd) ⟨?_, ?_⟩ b1 b2 ?_ ?_ (fun j hj => ?_)
    · rw [b3 _ _ (by omega) (by omega), a5 _ (by omega)]; exact y1
    · rw [b3 _ _ (by omega) (by omega), a5 _ (by omega)]; exact y2
    · rw [b3 _ _ (by omega) (by omega), a3, List.length_append, opsC_len, Nat.add_assoc]
    · have b4 : ∀ j, S2.1 (l + 1) j = S1.1 (l + 1) j ∧ S2.1 (l + 2) j = S1.1 (l + 2) j := fun j => ⟨b3 _ _ (by omega) (by omega), b3 _ _ (by omega) (by omega)⟩
      refine StpC.app (p2.fr (fun j h1 h2 => ?_)) (a4.fr (fun j _ _ => b4 j))
      have hx1 : XGr l (N0 + (stS q).length) (l + 1) j = false := by
        simp only [XGr, Bool.or_eq_false_iff, Bool.and_eq_false_iff, beq_eq_false_iff_ne, decide_eq_false_iff_not]
        omega
      have hx2 : XGr l (N0 + (stS q).length) (l + 2) j = false := by
        simp only [XGr, Bool.or_eq_false_iff, Bool.and_eq_false_iff, beq_eq_false_iff_ne, decide_eq_false_iff_not]
        omega
      rw [(b4 j).1, (b4 j).2]
      exact ⟨d1.2 _ _ hx1, d1.2 _ _ hx2⟩
    · rw [b3 _ _ (by omega) (by omega)]; exact a5 j hj
  -- the end: the token is taken
  have tail : ∀ (S3 : ST), Df (XGr l N0) S S3 → CTk c L S3 → CY q.y S3 → (∀ S4, Df XTk S3 S4 → CY (tk (tkK c L) k q.y) S4 → CQC l N0 (cst (tkK c L) (tkV c L) q) S4) → Ok ((E_X2_take n S3 (nI k)).bind fun S3 => some S3) (fun S' => Df (XGr l N0) S S' ∧ CQC l N0 (cst (tkK c L) (tkV c L) q) S') := fun S3 d3 hT3 hy3 fin => by
    obtain ⟨S4, e1, d4, g4⟩ := c_take (n := n) (k := k) hT3 hy3 hY (by omega)
    apply Ok.step e1
    exact Ok.ret ⟨d3.trans (XTk_Gr d4), fin S4 d4 g4⟩
  have xk : ∀ (S3 S4 : ST), Df XTk S3 S4 → ∀ a j, (a ≠ 15 ∨ (j ≠ 4 ∧ j ≠ 5)) → S4.1 a j = S3.1 a j := fun S3 S4 d a j h => d.2 _ _ (by simp only [XTk, Bool.and_eq_false_iff, Bool.or_eq_false_iff, beq_eq_false_iff_ne]; omega)
  have x15 : ∀ j, 3 ≤ j → XGr l N0 15 j = true := fun j hj => by
    have : ¬ j < 3 := by omega
    simp [XGr, this]
  unfold E_X2_takeBehindOperand
  apply Ok.jnU
  apply Ok.jnU
  by_cases c1 : k = 33 ∧ 0 < opn q.s
  · rw [if_pos c1] at ecst
    obtain ⟨r, r1, r2, r3⟩ := rel_open h4 c1.2
    obtain ⟨q1, q2⟩ := relD (b := lowS q) c1.2
    have eA : relO 1 (flS q) = relO 1 q.s := q1
    have eB : relR 1 (flS q) = 32 :: (r ++ lowS q) := by
      show relR 1 (q.s ++ lowS q) = _
      rw [q2, r1]; rfl
    refine Ok.ifT (by rw [c1.1]; rfl) (Ok.ifF (by rw [f6]; exact nI_nle c1.2 (by omega)) ?_)
    have hAB := rel_len 1 (flS q)
    obtain ⟨S1, e1, d1, a1, a2, a3, a4, a5⟩ := c_release (n := n) (t := 1) hn (by decide) (by decide) hl (by omega) s1 s2 hmem p1 (by omega)
    rw [eA] at a3 a4 hAB
    rw [eB] at a1 a2 hAB
    apply Ok.step (show E_X2_release n S l (1 : Int32) = some S1 from e1)
    apply Ok.letsU
    apply Ok.letsU
    rw [List.length_cons] at a1 hAB
    have e3 : mxI (0 : Int32) ((S1.1 15 3) - (1 : Int32)) = nI (r ++ lowS q).length := by
      rw [a1]
      have : nI ((r ++ lowS q).length + 1) - 1 = nI (r ++ lowS q).length := by
        have := nI_subC 1 (r ++ lowS q).length
        rw [Nat.add_comm] at this
        exact this
      rw [this]
      unfold mxI
      rcases Nat.eq_zero_or_pos (r ++ lowS q).length with z | z
      · rw [z]; rfl
      · rw [if_pos (show (0 : Int32) < _ from nI_lt (a := 0) z (by omega))]
    rw [e3]
    generalize eS2 : upI S1 15 3 (nI (r ++ lowS q).length) = S2
    have o2 : ∀ a j, (a ≠ 15 ∨ j ≠ 3) → S2.1 a j = S1.1 a j := fun a j h => by rw [← eS2, upI_at, if_neg (by omega)]
    have e6 : S2.1 15 6 - 1 = nI (opn r) := by
      rw [o2 _ _ (by omega), a5 _ (by omega), f6, r3]
      have := nI_subC 1 (opn r)
      rw [Nat.add_comm] at this
      exact this
    rw [e6]
    generalize eS3 : upI S2 15 6 (nI (opn r)) = S3
    have o3 : ∀ a j, (a ≠ 15 ∨ (j ≠ 3 ∧ j ≠ 6)) → S3.1 a j = S1.1 a j := fun a j h => by rw [← eS3, upI_at, if_neg (by omega), o2 _ _ (by omega)]
    have d3 : Df (XGr l N0) S S3 := by
      rw [← eS3, ← eS2]
      exact ((XGr.mono (by omega) d1).up (x15 3 (by decide))).up (x15 6 (by decide))
    refine tail S3 d3 (hT.gr hl d3) ⟨?_, ?_⟩ (fun S4 d4 g4 => ?_)
    · rw [o3 _ _ (by omega), a5 _ (by omega)]; exact y1
    · rw [o3 _ _ (by omega), a5 _ (by omega)]; exact y2
    have o4 := xk S3 S4 d4
    have efl : flS (mkQ (tk (tkK c L) k q.y) q.b q.g q.ng q.lf (q.o ++ opsC (relO 1 q.s)) (relR 1 q.s).tail q.orr q.ls q.E q.pO q.pA) = r ++ lowS q := by
      rw [flS_mk, r1]; rfl
    have est : stS (mkQ (tk (tkK c L) k q.y) q.b q.g q.ng q.lf (q.o ++ opsC (relO 1 q.s)) (relR 1 q.s).tail q.orr q.ls q.E q.pO q.pA) = stS q ++ opsC (relO 1 q.s) := by
      rw [stS_mk, stS_q]
      simp only [List.append_assoc]
    rw [ecst]
    refine ⟨g4, ?_, ?_, ?_, ?_, fun _ => ⟨?_, ?_, ?_, ?_⟩⟩
    · rw [efl, o4 _ _ (by omega), ← eS3, upI_at, if_neg (by omega), ← eS2, upI_at, if_pos ⟨rfl, rfl⟩]
    · rw [efl]; exact a2.2.fr (fun j _ => by rw [o4 _ _ (by omega), o3 _ _ (by omega)])
    · rw [est, o4 _ _ (by omega), o3 _ _ (by omega), a3, List.length_append, opsC_len, Nat.add_assoc]
    · rw [est]
      refine StpC.app (p2.fr (fun j h1 h2 => ?_)) (a4.fr (fun j _ _ => ⟨by rw [o4 _ _ (by omega), o3 _ _ (by omega)], by rw [o4 _ _ (by omega), o3 _ _ (by omega)]⟩))
      have hx1 : XGr l (N0 + (stS q).length) (l + 1) j = false := by
        simp only [XGr, Bool.or_eq_false_iff, Bool.and_eq_false_iff, beq_eq_false_iff_ne, decide_eq_false_iff_not]
        omega
      have hx2 : XGr l (N0 + (stS q).length) (l + 2) j = false := by
        simp only [XGr, Bool.or_eq_false_iff, Bool.and_eq_false_iff, beq_eq_false_iff_ne, decide_eq_false_iff_not]
        omega
      rw [o4 _ _ (by omega), o4 _ _ (by omega), o3 _ _ (by omega), o3 _ _ (by omega)]
      exact ⟨d1.2 _ _ hx1, d1.2 _ _ hx2⟩
    · show S4.1 15 6 = nI (opn (relR 1 q.s).tail)
      rw [r1, o4 _ _ (by omega), ← eS3, upI_at, if_pos ⟨rfl, rfl⟩]; rfl
    · rw [o4 _ _ (by omega), o3 _ _ (by omega), a5 _ (by omega)]; exact f7
    · rw [o4 _ _ (by omega), o3 _ _ (by omega), a5 _ (by omega)]; exact f8
    · rw [o4 _ _ (by omega), o3 _ _ (by omega), a5 _ (by omega)]; exact f9
  rw [if_neg c1] at ecst
  refine Ok.if2 (fun z => ?_) ?_
  · have z2 : k = 33 := by
      rcases Nat.decEq k 33 with g | g
      · exact absurd z (ne 33 (by decide) g)
      · exact g
    rw [f6]
    have : opn q.s = 0 := by omega
    rw [this]; decide
  apply Ok.step (c_isRck (by omega))
  apply Ok.jnU
  by_cases c2 : 24 ≤ k ∧ k ≤ 27
  · rw [if_pos c2] at ecst
    refine Ok.ifF (by rw [decide_eq_true c2]; decide) ?_
    apply Ok.step (c_tight (by omega))
    have htg : 5 ≤ tg k ∧ tg k ≤ 6 := by have := tg_op c2; omega
    obtain ⟨q1, q2⟩ := relC (t := tg k) (s := q.s) (b := lowS q) (fun j hj => by have := tg_low (hlow j hj); omega)
    refine relpush (tg k) (relO (tg k) q.s) (relR (tg k) q.s ++ lowS q) (by omega) (by omega) q1 q2 _ _ (fun S2 d2 hT2 hy2' b1 b2 b3 b4 b5 => ?_)
    apply Ok.letsU
    have fin : ∀ (u : Int32), u = bI q.lf.isSome → Ok (gd (u = 0 ∨ u = 1) (lets (upI (upI S2 15 7 (0 : Int32)) 15 9 u) fun S13 => (E_X2_take n S13 (nI k)).bind fun S3 => some S3)) (fun S' => Df (XGr l N0) S S' ∧ CQC l N0 (cst (tkK c L) (tkV c L) q) S') := fun u hu => by
      refine Ok.gdT (by rw [hu]; cases q.lf.isSome <;> decide) ?_
      apply Ok.letsU
      generalize eS3 : upI (upI S2 15 7 (0 : Int32)) 15 9 u = S3
      have o3 : ∀ a j, (a ≠ 15 ∨ (j ≠ 7 ∧ j ≠ 9)) → S3.1 a j = S2.1 a j := fun a j h => by rw [← eS3, upI_at, if_neg (by omega), upI_at, if_neg (by omega)]
      have d3 : Df (XGr l N0) S S3 := by rw [← eS3]; exact (d2.up (x15 7 (by decide))).up (x15 9 (by decide))
      refine tail S3 d3 (hT.gr hl d3) ⟨by rw [o3 _ _ (by omega)]; exact hy2'.1, by rw [o3 _ _ (by omega)]; exact hy2'.2⟩ (fun S4 d4 g4 => ?_)
      have o4 := xk S3 S4 d4
      have est : stS (mkQ (tk (tkK c L) k q.y) false q.g q.ng q.lf (q.o ++ opsC (relO (tg k) q.s)) (k :: relR (tg k) q.s) q.orr q.ls q.E q.pO q.pA) = stS q ++ opsC (relO (tg k) q.s) := by
        rw [stS_mk, stS_q]
        simp only [List.append_assoc]
      rw [ecst]
      refine ⟨g4, ?_, ?_, ?_, ?_, fun _ => ⟨?_, ?_, ?_, ?_⟩⟩
      · rw [o4 _ _ (by omega), o3 _ _ (by omega)]; exact b1
      · exact Stk.fr (F := k :: (relR (tg k) q.s ++ lowS q)) b2 (fun j _ => by rw [o4 _ _ (by omega), o3 _ _ (by omega)])
      · rw [est, o4 _ _ (by omega), o3 _ _ (by omega)]; exact b3
      · rw [est]; exact b4.fr (fun j _ _ => ⟨by rw [o4 _ _ (by omega), o3 _ _ (by omega)], by rw [o4 _ _ (by omega), o3 _ _ (by omega)]⟩)
      · show S4.1 15 6 = nI (opn (k :: relR (tg k) q.s))
        rw [opn, if_neg (by omega), rel_opn (by omega), o4 _ _ (by omega), o3 _ _ (by omega), b5 _ (by omega)]; exact f6
      · rw [o4 _ _ (by omega), ← eS3, upI_at, if_neg (by omega), upI_at, if_pos ⟨rfl, rfl⟩]; rfl
      · rw [o4 _ _ (by omega), o3 _ _ (by omega), b5 _ (by omega)]; exact f8
      · rw [o4 _ _ (by omega), ← eS3, upI_at, if_pos ⟨rfl, rfl⟩, hu]
    have e9 : (upI S2 15 7 (0 : Int32)).1 15 9 = bI q.lf.isSome := by rw [upI_at, if_neg (by omega), b5 _ (by omega)]; exact f9
    apply Ok.jnU
    apply Ok.jnU
    rw [e9]
    cases hs : q.lf.isSome with
    | true => exact Ok.ifF (by decide) (fin 1 (by rw [hs]; rfl))
    | false =>
      refine Ok.ifT (by decide) ?_
      apply Ok.step (c_isCmp (by omega))
      refine Ok.ifT (by rw [decide_eq_false (by omega)]; rfl) (fin 0 (by rw [hs]; rfl))
  rw [if_neg c2] at ecst
  refine Ok.ifT (by rw [decide_eq_false c2]; rfl) ?_
  apply Ok.step (c_isCmp (by omega))
  apply Ok.jnU
  cases hlf : q.lf with
  | none =>
    rw [hlf] at ecst f9
    dsimp only at ecst
    by_cases c3 : (28 ≤ k ∧ k ≤ 31) ∧ opn q.s = 0
    · rw [if_pos c3] at ecst
      refine Ok.ifF (by rw [decide_eq_true c3.1]; decide) (Ok.ifT (by rw [f6, c3.2]; rfl) (Ok.ifT (by rw [f9]; rfl) ?_))
      apply Ok.step (c_tight (by omega))
      have ht4 : tg k = 4 := by
        have : ∀ j : Fin 4, tg (j.val + 28) = 4 := by decide
        have h2 := this ⟨k - 28, by omega⟩
        dsimp only at h2
        rw [show k - 28 + 28 = k by omega] at h2
        exact h2
      obtain ⟨ra, rb⟩ := rel_all h4 c3.2 (t := 1) (by decide)
      have hall : ∀ j ∈ q.s, 4 ≤ tg j := fun j hj => by
        rw [← ra] at hj
        have := tg_op (relO_ops (by decide) h4 j hj); omega
      obtain ⟨q1, q2⟩ := relA (b := lowS q) hall
      have hlow2 : ∀ j ∈ lowS q, tg j < 4 := fun j hj => by
        have h1 : lowS q = List.replicate q.ng 15 ++ (onS q.pA 14 ++ onS q.pO 13) := by unfold lowS; rw [hlf]; rfl
        rw [h1] at hj
        have h15 : tg 15 = 3 := by decide
        have h14' : tg 14 = 2 := by decide
        have h13' : tg 13 = 1 := by decide
        rcases List.mem_append.mp hj with h | h
        · rw [(List.mem_replicate.mp h).2]; omega
        rcases List.mem_append.mp h with h | h
        · unfold onS at h
          split at h
          · rw [List.mem_singleton.mp h]; omega
          · cases h
        · unfold onS at h
          split at h
          · rw [List.mem_singleton.mp h]; omega
          · cases h
      obtain ⟨q3, q4⟩ := relB hlow2
      rw [ht4]
      refine relpush 4 q.s (lowS q) (by omega) (by omega) (by show relO 4 (q.s ++ lowS q) = _; rw [q1, q3, List.append_nil]) (by show relR 4 (q.s ++ lowS q) = _; rw [q2, q4]) _ _ (fun S2 d2 hT2 hy2' b1 b2 b3 b4 b5 => ?_)
      apply Ok.letsU
      apply Ok.jnU
      apply Ok.jnU
      have e9 : (upI S2 15 7 (0 : Int32)).1 15 9 = 0 := by rw [upI_at, if_neg (by omega), b5 _ (by omega)]; exact f9
      refine Ok.ifT e9 ?_
      apply Ok.step (c_isCmp (by omega))
      refine Ok.ifF (by rw [decide_eq_true c3.1]; decide) ?_
      refine Ok.gdT (Or.inr rfl) ?_
      apply Ok.letsU
      generalize eS3 : upI (upI S2 15 7 (0 : Int32)) 15 9 (1 : Int32) = S3
      have o3 : ∀ a j, (a ≠ 15 ∨ (j ≠ 7 ∧ j ≠ 9)) → S3.1 a j = S2.1 a j := fun a j h => by rw [← eS3, upI_at, if_neg (by omega), upI_at, if_neg (by omega)]
      have d3 : Df (XGr l N0) S S3 := by rw [← eS3]; exact (d2.up (x15 7 (by decide))).up (x15 9 (by decide))
      refine tail S3 d3 (hT.gr hl d3) ⟨by rw [o3 _ _ (by omega)]; exact hy2'.1, by rw [o3 _ _ (by omega)]; exact hy2'.2⟩ (fun S4 d4 g4 => ?_)
      have o4 := xk S3 S4 d4
      have est : stS (mkQ (tk (tkK c L) k q.y) false q.g q.ng (some (k - 28, q.o ++ opsC (relO 1 q.s))) [] [] q.orr q.ls q.E q.pO q.pA) = stS q ++ opsC q.s := by
        rw [stS_mk, stS_q, hlf, ra]
        show q.E ++ ((q.o ++ opsC q.s) ++ []) = (q.E ++ ([] ++ q.o)) ++ opsC q.s
        rw [List.append_nil, List.nil_append, List.append_assoc]
      have efl : flS (mkQ (tk (tkK c L) k q.y) false q.g q.ng (some (k - 28, q.o ++ opsC (relO 1 q.s))) [] [] q.orr q.ls q.E q.pO q.pA) = k :: lowS q := by
        rw [flS_mk, lowS_q, hlf]
        show (28 + (k - 28)) :: _ = k :: _
        rw [show 28 + (k - 28) = k by omega]; rfl
      rw [ecst]
      refine ⟨g4, ?_, ?_, ?_, ?_, fun _ => ⟨?_, ?_, ?_, ?_⟩⟩
      · rw [efl, o4 _ _ (by omega), o3 _ _ (by omega)]; exact b1
      · rw [efl]; exact b2.fr (fun j _ => by rw [o4 _ _ (by omega), o3 _ _ (by omega)])
      · rw [est, o4 _ _ (by omega), o3 _ _ (by omega)]; exact b3
      · rw [est]; exact b4.fr (fun j _ _ => ⟨by rw [o4 _ _ (by omega), o3 _ _ (by omega)], by rw [o4 _ _ (by omega), o3 _ _ (by omega)]⟩)
      · rw [o4 _ _ (by omega), o3 _ _ (by omega), b5 _ (by omega), f6, c3.2]; rfl
      · rw [o4 _ _ (by omega), ← eS3, upI_at, if_neg (by omega), upI_at, if_pos ⟨rfl, rfl⟩]; rfl
      · rw [o4 _ _ (by omega), o3 _ _ (by omega), b5 _ (by omega)]; exact f8
      · rw [o4 _ _ (by omega), ← eS3, upI_at, if_pos ⟨rfl, rfl⟩]; rfl
    rw [if_neg c3] at ecst
    refine Ok.if3 (fun z1 z2 => ?_) ?_
    · exfalso
      rw [bI_z, decide_eq_false_iff_not] at z1
      rw [f6] at z2
      have := (nI_eq (b := 0) (by omega) (by decide)).mp z2
      exact c3 ⟨Classical.not_not.mp z1, this⟩
    apply Ok.jnU
    apply Ok.jnU
    refine Ok.if4 (fun _ _ => by rw [f9]; rfl) ?_
    refine faultB ?_
    rw [ecst]
    have : q = mkQ q.y q.b q.g q.ng q.lf q.o q.s q.orr q.ls q.E q.pO q.pA := rfl
    rw [hlf]
  | some x =>
    obtain ⟨how, li⟩ := x
    rw [hlf] at ecst f9
    dsimp only at ecst
    have hlw := h10 how li hlf
    refine Ok.if3 (fun _ _ => by rw [f9]; exact (show ¬ (1 : Int32) = 0 by decide)) ?_
    apply Ok.jnU
    apply Ok.jnU
    have hop6 : q.s.length < 2 ^ 31 := by omega
    by_cases c3 : (k = 14 ∨ k = 13) ∧ opn q.s = 0
    · obtain ⟨ra, rb⟩ := rel_all h4 c3.2 (t := 1) (by decide)
      have elow : lowS q = (28 + how) :: (List.replicate q.ng 15 ++ (onS q.pA 14 ++ onS q.pO 13)) := by unfold lowS; rw [hlf]; rfl
      have g28 : tg (28 + how) = 4 := by
        have : ∀ j : Fin 4, tg (28 + j.val) = 4 := by decide
        exact this ⟨how, by omega⟩
      have g15 : tg 15 = 3 := by decide
      have g14 : tg 14 = 2 := by decide
      have g13 : tg 13 = 1 := by decide
      have hall : ∀ t, t ≤ 2 → ∀ j ∈ q.s ++ ((28 + how) :: (List.replicate q.ng 15 ++ onS q.pA 14)), t ≤ tg j := fun t ht j hj => by
        rcases List.mem_append.mp hj with h | h
        · rw [← ra] at h
          have := tg_op (relO_ops (by decide) h4 j h); omega
        rcases List.mem_cons.mp h with h | h
        · rw [h]; omega
        rcases List.mem_append.mp h with h | h
        · rw [(List.mem_replicate.mp h).2]; omega
        · unfold onS at h
          split at h
          · rw [List.mem_singleton.mp h]; omega
          · cases h
      have efq : flS q = (q.s ++ ((28 + how) :: (List.replicate q.ng 15 ++ onS q.pA 14))) ++ onS q.pO 13 := by
        unfold flS
        rw [elow]
        simp only [List.append_assoc, List.cons_append]
      -- the same for both
      have go : ∀ (t : Nat) (A B : List Nat), tg k = t → 1 ≤ t → t ≤ 7 → relO t (flS q) = A → relR t (flS q) = B → (∀ S4, CY (tk (tkK c L) k q.y) S4 → S4.1 15 3 = nI (k :: B).length → Stk (k :: B) S4 → S4.1 l 7 = nI (N0 + (stS q ++ opsC A).length) → StpC l N0 (stS q ++ opsC A) S4 → S4.1 15 6 = 0 → S4.1 15 7 = 0 → S4.1 15 8 = 0 → S4.1 15 9 = 0 → CQC l N0 (cst (tkK c L) (tkV c L) q) S4) →
          Ok ((E_X2_tightness n S (nI k)).bind fun v27 => (E_X2_release n S l v27).bind fun S29 => (E_X2_push n S29 (nI k)).bind fun S31 => lets (upI S31 15 7 (0 : Int32)) fun (S32 : ST) => lets (upI S32 15 8 (0 : Int32)) fun (S33 : ST) => lets (upI S33 15 9 (0 : Int32)) fun (S34 : ST) => (E_X2_take n S34 (nI k)).bind fun S3 => some S3) (fun S' => Df (XGr l N0) S S' ∧ CQC l N0 (cst (tkK c L) (tkV c L) q) S') := fun t A B et t1 t2 eA eB fin => by
        apply Ok.step (c_tight (by omega))
        rw [et]
        refine relpush t A B t1 t2 eA eB _ _ (fun S2 d2 hT2 hy2' b1 b2 b3 b4 b5 => ?_)
        apply Ok.letsU
        apply Ok.letsU
        apply Ok.letsU
        generalize eS3 : upI (upI (upI S2 15 7 (0 : Int32)) 15 8 (0 : Int32)) 15 9 (0 : Int32) = S3
        have o3 : ∀ a j, (a ≠ 15 ∨ (j ≠ 7 ∧ j ≠ 8 ∧ j ≠ 9)) → S3.1 a j = S2.1 a j := fun a j h => by rw [← eS3, upI_at, if_neg (by omega), upI_at, if_neg (by omega), upI_at, if_neg (by omega)]
        have d3 : Df (XGr l N0) S S3 := by rw [← eS3]; exact ((d2.up (x15 7 (by decide))).up (x15 8 (by decide))).up (x15 9 (by decide))
        refine tail S3 d3 (hT.gr hl d3) ⟨by rw [o3 _ _ (by omega)]; exact hy2'.1, by rw [o3 _ _ (by omega)]; exact hy2'.2⟩ (fun S4 d4 g4 => ?_)
        have o4 := xk S3 S4 d4
        refine fin S4 g4 ?_ ?_ ?_ ?_ ?_ ?_ ?_ ?_
        · rw [o4 _ _ (by omega), o3 _ _ (by omega)]; exact b1
        · exact b2.fr (fun j _ => by rw [o4 _ _ (by omega), o3 _ _ (by omega)])
        · rw [o4 _ _ (by omega), o3 _ _ (by omega)]; exact b3
        · exact b4.fr (fun j _ _ => ⟨by rw [o4 _ _ (by omega), o3 _ _ (by omega)], by rw [o4 _ _ (by omega), o3 _ _ (by omega)]⟩)
        · rw [o4 _ _ (by omega), o3 _ _ (by omega), b5 _ (by omega), f6, c3.2]; rfl
        · rw [o4 _ _ (by omega), ← eS3, upI_at, if_neg (by omega), upI_at, if_neg (by omega), upI_at, if_pos ⟨rfl, rfl⟩]
        · rw [o4 _ _ (by omega), ← eS3, upI_at, if_neg (by omega), upI_at, if_pos ⟨rfl, rfl⟩]
        · rw [o4 _ _ (by omega), ← eS3, upI_at, if_pos ⟨rfl, rfl⟩]
      by_cases c14 : k = 14
      · rw [if_pos ⟨c14, c3.2⟩] at ecst
        refine Ok.ifT (by rw [c14]; rfl) (Ok.ifT (by rw [f6, c3.2]; rfl) (Ok.ifF (by rw [f9]; exact (show ¬ (1 : Int32) = 0 by decide)) ?_))
        have eA : relO 2 (flS q) = q.s ++ ((28 + how) :: (List.replicate q.ng 15 ++ onS q.pA 14)) := by
          rw [efq, (relA (hall 2 (by decide))).1]
          rw [(relB (t := 2) (b := onS q.pO 13) (fun j hj => by
            unfold onS at hj
            split at hj
            · rw [List.mem_singleton.mp hj]; omega
            · cases hj)).1, List.append_nil]
        have eB : relR 2 (flS q) = onS q.pO 13 := by
          rw [efq, (relA (hall 2 (by decide))).2]
          exact (relB (t := 2) (b := onS q.pO 13) (fun j hj => by
            unfold onS at hj
            split at hj
            · rw [List.mem_singleton.mp hj]; omega
            · cases hj)).2
        refine go 2 _ _ (by rw [c14]; rfl) (by decide) (by decide) eA eB (fun S4 g4 u1 u2 u3 u4 u6 u7 u8 u9 => ?_)
        have efl : flS (mkQ (tk (tkK c L) k q.y) false false 0 none [] [] false (q.ls ++ [(q.orr, q.ng, how, li, q.o ++ opsC (relO 1 q.s))]) (q.E ++ (litS how q.ng li (q.o ++ opsC (relO 1 q.s)) ++ andS q.pA)) q.pO true) = k :: onS q.pO 13 := by rw [c14]; rfl
        have est : stS (mkQ (tk (tkK c L) k q.y) false false 0 none [] [] false (q.ls ++ [(q.orr, q.ng, how, li, q.o ++ opsC (relO 1 q.s))]) (q.E ++ (litS how q.ng li (q.o ++ opsC (relO 1 q.s)) ++ andS q.pA)) q.pO true) = stS q ++ opsC (q.s ++ ((28 + how) :: (List.replicate q.ng 15 ++ onS q.pA 14))) := by
          rw [stS_mk, stS_q, hlf, ra]
          unfold litS lfC
          rw [opsC_app]
          show _ = _ ++ (_ ++ ((28 + how, 0) :: opsC (List.replicate q.ng 15 ++ onS q.pA 14)))
          rw [opsC_app, opsC_rep, opsC_and]
          simp only [List.append_assoc, List.cons_append, List.append_nil, List.nil_append]
        rw [ecst]
        refine ⟨g4, by rw [efl]; exact u1, by rw [efl]; exact u2, by rw [est]; exact u3, by rw [est]; exact u4, fun _ => ⟨u6, u7, u8, u9⟩⟩
      · have c13 : k = 13 := by omega
        rw [if_neg (fun z => c14 z.1), if_pos ⟨c13, c3.2⟩] at ecst
        refine Ok.ifF (ne 14 (by decide) c14) (Ok.ifT (by rw [c13]; rfl) (Ok.ifT (by rw [f6, c3.2]; rfl) (Ok.ifF (by rw [f9]; exact (show ¬ (1 : Int32) = 0 by decide)) ?_)))
        have hall1 : ∀ j ∈ flS q, 1 ≤ tg j := fun j hj => by
          rw [efq] at hj
          rcases List.mem_append.mp hj with h | h
          · exact hall 1 (by decide) j h
          · unfold onS at h
            split at h
            · rw [List.mem_singleton.mp h]; omega
            · cases h
        have rA := relA (b := []) hall1
        rw [List.append_nil] at rA
        have eA : relO 1 (flS q) = flS q := by rw [rA.1]; exact List.append_nil _
        have eB : relR 1 (flS q) = [] := rA.2
        refine go 1 _ _ (by rw [c13]; rfl) (by decide) (by decide) eA eB (fun S4 g4 u1 u2 u3 u4 u6 u7 u8 u9 => ?_)
        have efl : flS (mkQ (tk (tkK c L) k q.y) false false 0 none [] [] true (q.ls ++ [(q.orr, q.ng, how, li, q.o ++ opsC (relO 1 q.s))]) (q.E ++ (litS how q.ng li (q.o ++ opsC (relO 1 q.s)) ++ (andS q.pA ++ orS q.pO))) true false) = [k] := by rw [c13]; rfl
        have est : stS (mkQ (tk (tkK c L) k q.y) false false 0 none [] [] true (q.ls ++ [(q.orr, q.ng, how, li, q.o ++ opsC (relO 1 q.s))]) (q.E ++ (litS how q.ng li (q.o ++ opsC (relO 1 q.s)) ++ (andS q.pA ++ orS q.pO))) true false) = stS q ++ opsC (flS q) := by
          rw [efq, stS_mk, stS_q, hlf, ra]
          unfold litS lfC
          rw [opsC_app, opsC_app]
          show _ = _ ++ ((_ ++ ((28 + how, 0) :: opsC (List.replicate q.ng 15 ++ onS q.pA 14))) ++ _)
          rw [opsC_app, opsC_rep, opsC_and, opsC_or]
          simp only [List.append_assoc, List.cons_append, List.append_nil, List.nil_append]
        rw [ecst]
        refine ⟨g4, by rw [efl]; exact u1, by rw [efl]; exact u2, by rw [est]; exact u3, by rw [est]; exact u4, fun _ => ⟨u6, u7, u8, u9⟩⟩
    refine Ok.if4 (fun z1 z2 => ?_) ?_
    · exfalso
      rw [f6] at z2
      have hz := (nI_eq (b := 0) (by omega) (by decide)).mp z2
      refine c3 ⟨?_, hz⟩
      rcases z1 with z | z
      · exact Or.inl ((nI_eq (b := 14) (by omega) (by decide)).mp z)
      · exact Or.inr ((nI_eq (b := 13) (by omega) (by decide)).mp z)
    refine faultB ?_
    rw [ecst, if_neg (fun z => c3 ⟨Or.inl z.1, z.2⟩), if_neg (fun z => c3 ⟨Or.inr z.1, z.2⟩), hlf]
end CFD
