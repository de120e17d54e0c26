/-! ===== the class checks a text: one tell ===== -/
def nmO (k : Nat) : Nat := ([1, 1, 1, 2, 2, 2, 2, 2, 2, 0, 0] : List Nat).getD k 0
def inO (k : Nat) : Nat := ([0, 1, 1, 0, 2, 0, 1, 1, 0, 0, 0] : List Nat).getD k 0
/-- the tables of the class -/
def CnT (S : ST) : Prop := ∀ k, k < 11 → S.1 1 k = nI (cmx k) ∧ S.1 2 k = nI (nmO k) ∧ S.1 3 k = nI (inO k)
def tkn (K : Nat → Nat) (k : Nat) : Nat → Nat × Nat → Nat × Nat
  | 0, y => y
  | n + 1, y => tk K k (tkn K k n y)
theorem tkn_w {K : Nat → Nat} {k : Nat} (hk : k ≠ 35) : ∀ (m : Nat) {y : Nat × Nat}, yW K y → yW K (tkn K k m y) := by
  intro m
  induction m with
  | zero => intro y h; exact h
  | succ m ih => intro y h; exact tk_w (ih h) hk
/-- cells that the check changes -/
def XCk (l a j : Nat) : Bool := (a == 15 && !decide (j < 3)) || ((a == 16 || a == 17) || ((a == l && (j == 7 || j == 8)) || decide (l + 1 ≤ a ∧ a ≤ l + 5)))
section CCK
variable {n L l : Nat} {c : Nat → Nat} {S : ST}
theorem XGr_Ck {z : Nat} {S S' : ST} (d : Df (XGr l z) S S') : Df (XCk l) S S' := d.mono (fun a j hx => by
  simp only [XCk, XGr, Bool.or_eq_false_iff, Bool.and_eq_false_iff, beq_eq_false_iff_ne, Bool.not_eq_false', decide_eq_true_eq, decide_eq_false_iff_not] at hx ⊢
  omega)
theorem XTk_Ck {S S' : ST} (d : Df XTk S S') : Df (XCk l) S S' := XGr_Ck (z := 0) (XTk_Gr d)
theorem CTk.ck {S S' : ST} (hl : l = 35 ∨ l = 60) (h : CTk c L S) (d : Df (XCk l) S S') : CTk c L S' := h.d2 (D2.of (Y := YN) d) (fun a j hx => by
  simp only [XSc, Bool.or_eq_true, Bool.and_eq_true, beq_iff_eq] at hx
  simp only [XCk, Bool.or_eq_false_iff, Bool.and_eq_false_iff, beq_eq_false_iff_ne, decide_eq_false_iff_not]
  omega) rfl
theorem CnT.ck {S S' : ST} (hl : l = 35 ∨ l = 60) (h : CnT S) (d : Df (XCk l) S S') : CnT S' := fun k hk => by
  have x : ∀ a j, a < 4 → XCk l a j = false := fun a j ha => by
    simp only [XCk, Bool.or_eq_false_iff, Bool.and_eq_false_iff, beq_eq_false_iff_ne, decide_eq_false_iff_not]
    omega
  rw [d.2 _ _ (x 1 k (by decide)), d.2 _ _ (x 2 k (by decide)), d.2 _ _ (x 3 k (by decide))]
  exact h k hk
/-- a number of tokens of a kind -/
theorem c_takes {β : Type} {k a m t : Nat} {y : Nat × Nat} {g : ST → Option β} {R : β → Prop} (hn : 30000 ≤ n) (hl : l = 35 ∨ l = 60) (hT : CTk c L S) (hC : CnT S) (hy : CY y S) (hw : yW (tkK c L) y) (hk : k < 35) (ht : t < 11) (ha : a = 2 ∨ a = 3) (hm : ∀ S', CnT S' → S'.1 a t = nI m) (hm2 : m ≤ 2)
    (hg : ∀ S', Df XTk S S' → CY (tkn (tkK c L) k m y) S' → Ok (g S') R) :
    Ok ((iter (fun (s10 : Int32 × ST) => (rd (s10.2.1 a) 11 (nI t)).bind fun v11 => if v11 ≤ s10.1 then some (.inr s10.2) else (E_X2_take n s10.2 (nI k)).bind fun S14 => some (.inl ((s10.1 + (1 : Int32)), S14))) n ((0 : Int32), S)).bind g) R := by
  refine bindL (fun i (s : Int32 × ST) => s.1 = nI i ∧ Df XTk S s.2 ∧ CY (tkn (tkK c L) k i y) s.2) (fun S' => Df XTk S S' ∧ CY (tkn (tkK c L) k m y) S') 0 m (Nat.zero_le _) (by omega) ⟨rfl, Df.refl _ _, hy⟩ ?_ ?_ (fun S' h => hg S' h.1 h.2)
  · rintro i ⟨u, S1⟩ _ hi ⟨rfl, d1, y1⟩
    dsimp only at d1 y1 ⊢
    apply Ok.step (rd_nI ht (by decide))
    rw [hm S1 (hC.ck hl (XTk_Ck d1))]
    refine Ok.ifF (nI_ge hi (by omega)) ?_
    obtain ⟨S2, e2, d2, y2⟩ := c_take (n := n) (hT.ck hl (XTk_Ck d1)) y1 (tkn_w (by omega) i hw) (by omega : k < 36)
    apply Ok.step e2
    exact Ok.inl ⟨nI_1 _, d1.trans d2, y2⟩
  · rintro ⟨u, S1⟩ ⟨rfl, d1, y1⟩
    dsimp only at d1 y1 ⊢
    apply Ok.step (rd_nI ht (by decide))
    rw [hm S1 (hC.ck hl (XTk_Ck d1))]
    exact Ok.ifT (nI_le (Nat.le_refl _) (by omega)) (Ok.inr ⟨d1, y1⟩)
theorem c_further {y : Nat × Nat} (hn : 30000 ≤ n) (hl : l = 35 ∨ l = 60) (hT : CTk c L S) (hy : CY y S) (hw : yW (tkK c L) y) : Ok (E_X2_takeFurtherNames n S) (fun S' => Df XTk S S' ∧ CY (fur (tkK c L) 401 y) S') := by
  unfold E_X2_takeFurtherNames
  refine bindL (fun i (s : Int32 × ST) => s.1 = nI i ∧ Df XTk S s.2 ∧ ∃ z, CY z s.2 ∧ yW (tkK c L) z ∧ fur (tkK c L) (401 - i) z = fur (tkK c L) 401 y ∧ (z.1 = 0 → 2 * i ≤ z.2)) (fun S' => Df XTk S S' ∧ CY (fur (tkK c L) 401 y) S') 0 400 (Nat.zero_le _) (by omega) ⟨rfl, Df.refl _ _, y, hy, hw, rfl, fun _ => Nat.zero_le _⟩ ?_ ?_ (fun S' h => Ok.ret h)
  · rintro i ⟨u, S1⟩ _ hi ⟨rfl, d1, z, y1, w1, e1, l1⟩
    dsimp only at d1 y1 ⊢
    have hT1 := hT.ck hl (XTk_Ck d1)
    have hz2 := w1.2.1
    have hz1 := w1.1
    have e401 : 401 - i = (400 - i) + 1 := by omega
    refine Ok.ifF (nI_ge (b := 400) hi (by decide)) ?_
    by_cases c0 : z.1 = 0
    case neg =>
      refine Ok.ifF (fun h => c0 ?_) (Ok.inr ⟨d1, ?_⟩)
      · rw [y1.2] at h
        exact (nI_eq (b := 0) (by omega) (by decide)).mp h
      · rw [← e1, fur_f c0]; exact y1
    refine Ok.ifT (by rw [y1.2, c0]; rfl) ?_
    rw [y1.1]
    apply Ok.step (c_kind hT1 hz2)
    have hkl := tkK_le (c := c) (L := L) (j := z.2)
    by_cases c1 : tkK c L z.2 = 23
    case neg =>
      refine Ok.ifF (fun h => c1 ((nI_eq (b := 23) (by omega) (by decide)).mp h)) (Ok.inr ⟨d1, ?_⟩)
      rw [← e1, e401, fur, if_neg (fun h => c1 h.2)]; exact y1
    refine Ok.ifT (by rw [c1]; rfl) ?_
    obtain ⟨S2, e2, d2, y2⟩ := c_take (n := n) (k := 23) hT1 y1 w1 (by decide)
    apply Ok.step (show E_X2_take n S1 (23 : Int32) = some S2 from e2)
    have w2 := tk_w (k := 23) w1 (by decide)
    obtain ⟨S3, e3, d3, y3⟩ := c_take (n := n) (k := 20) (hT1.ck hl (XTk_Ck d2)) y2 w2 (by decide)
    apply Ok.step (show E_X2_take n S2 (20 : Int32) = some S3 from e3)
    refine Ok.inl ⟨nI_1 _, (d1.trans d2).trans d3, _, y3, tk_w w2 (by decide), ?_, fun h => ?_⟩
    · rw [← e1, e401, fur, if_pos ⟨c0, c1⟩, show 401 - (i + 1) = 400 - i by omega]
    · obtain ⟨a1, a2, a3, a4⟩ := tk_0 h
      obtain ⟨b1, b2, b3, b4⟩ := tk_0 a1
      rw [a4, b4]
      have := l1 c0
      dsimp only
      omega
  · rintro ⟨u, S1⟩ ⟨rfl, d1, z, y1, w1, e1, l1⟩
    dsimp only at d1 y1 ⊢
    refine Ok.ifT (by decide) (Ok.inr ⟨d1, ?_⟩)
    have c0 : z.1 ≠ 0 := fun h => by have := l1 h; have := w1.2.1; omega
    rw [← e1, fur_f c0]; exact y1
theorem c_condF {y : Nat × Nat} (hn : 30000 ≤ n) (hl : l = 35 ∨ l = 60) (hy : CY y S) (hw : yW (tkK c L) y) (h0 : y.1 ≠ 0) : Ok (E_X2_takeCondition n S l) (fun S' => Df (XCk l) S S' ∧ CY y S' ∧ ∀ a j, a ≠ 15 → S'.1 a j = S.1 a j) := by
  unfold E_X2_takeCondition
  apply Ok.letsU
  apply Ok.letsU
  apply Ok.letsU
  apply Ok.letsU
  apply Ok.letsU
  generalize eS1 : upI (upI (upI (upI (upI S 15 3 (0 : Int32)) 15 6 (0 : Int32)) 15 7 (0 : Int32)) 15 8 (0 : Int32)) 15 9 (0 : Int32) = S1
  have x15 : ∀ j, 3 ≤ j → XCk l 15 j = true := fun j hj => by
    have : ¬ j < 3 := by omega
    simp [XCk, this]
  have d1 : Df (XCk l) S S1 := by rw [← eS1]; exact (((((Df.refl _ _).up (x15 3 (by decide))).up (x15 6 (by decide))).up (x15 7 (by decide))).up (x15 8 (by decide))).up (x15 9 (by decide))
  have f3 : S1.1 15 3 = 0 := by rw [← eS1, upI_at, if_neg (by omega), upI_at, if_neg (by omega), upI_at, if_neg (by omega), upI_at, if_neg (by omega), upI_at, if_pos ⟨rfl, rfl⟩]
  have y1 : CY y S1 := by
    refine ⟨?_, ?_⟩
    · rw [← eS1, upI_at, if_neg (by omega), upI_at, if_neg (by omega), upI_at, if_neg (by omega), upI_at, if_neg (by omega), upI_at, if_neg (by omega)]; exact hy.1
    · rw [← eS1, upI_at, if_neg (by omega), upI_at, if_neg (by omega), upI_at, if_neg (by omega), upI_at, if_neg (by omega), upI_at, if_neg (by omega)]; exact hy.2
  refine bindW (fun d (s : Int32 × ST) => s = ((0 : Int32), S1)) 0 (fun S' => S' = S1) (by omega) rfl ?_ ?_
  · rintro d s rfl
    dsimp only
    refine Ok.ifF (by decide) (Ok.ifF (fun z => h0 ?_) (Ok.inr rfl))
    rw [y1.2] at z
    have := hw.1
    exact (nI_eq (b := 0) (by omega) (by decide)).mp z
  · rintro S2 rfl
    apply Ok.step (x := S2) (by
      unfold E_X2_release
      apply Ok.e
      refine bindW (fun d s => s = S2) 0 (fun s => s = S2) (by omega) rfl ?_ (fun s h => Ok.ret h)
      rintro d s rfl
      exact Ok.ifT (by rw [f3]; decide) (Ok.inr rfl))
    exact Ok.ret ⟨d1, y1, fun a j h => by rw [← eS1, upI_at, if_neg (by omega), upI_at, if_neg (by omega), upI_at, if_neg (by omega), upI_at, if_neg (by omega), upI_at, if_neg (by omega)]⟩
end CCK
