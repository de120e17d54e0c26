/-! ===== a text, told: what it says ===== -/
/-- names: the value, the kind of tell, the number -/
abbrev NTb : Type := List (Nat × Nat × Nat)
def lk (T : NTb) (v : Nat) : Option (Nat × Nat × Nat) := T.find? (fun e => e.1 == v)
def oldN (V : Nat → Nat) (T : NTb) (k j : Nat) : Option Nat := (lk T (V j)).bind (fun e => if e.2.1 = k then some e.2.2 else none)
abbrev SF : Type := Option (Nat × Nat)
def cNew (V : Nat → Nat) (T : NTb) (j : Nat) : SF := if (lk T (V j)).isSome = true then some (3, j) else none
def cOld (V : Nat → Nat) (T : NTb) (k j : Nat) : SF := if (oldN V T k j).isSome = true then none else some (4, j)
def cIn (V : Nat → Nat) (lo hi j : Nat) : SF := if lo ≤ V j ∧ V j ≤ hi then none else some (5, j)
/-- the first of faults -/
def orF (a b : SF) : SF := match a with
  | some x => some x
  | none => b
/-- a task's things -/
def tsk (K V : Nat → Nat) (T : NTb) : Nat → Nat → Nat → SF × Nat
  | 0, s, _ => (none, s)
  | n + 1, s, j => match oldN V T 2 j with
    | none => (some (4, j), s)
    | some t => if s.testBit t = true then (some (3, j), s) else if K (j + 1) = 23 then tsk K V T n (s ||| 2 ^ t) (j + 2) else (none, s ||| 2 ^ t)
def bth (K V : Nat → Nat) (i : Nat) : Nat := if K (i + 3) = 11 then V (i + 4) else 99
def semF (K V : Nat → Nat) (T : NTb) (k i : Nat) : SF :=
  if k = 0 then cNew V T (i + 1)
  else if k = 1 then orF (cNew V T (i + 1)) (orF (cIn V 0 99 (i + 2)) (if K (i + 3) = 11 then cIn V 0 23 (i + 4) else none))
  else if k = 2 then orF (cNew V T (i + 1)) (cIn V 0 99 (i + 2))
  else if k = 3 then orF (cOld V T 0 (i + 1)) (orF (cOld V T 0 (i + 2)) (if oldN V T 0 (i + 1) = oldN V T 0 (i + 2) then some (5, i + 2) else none))
  else if k = 4 then orF (cOld V T 1 (i + 1)) (orF (cOld V T 0 (i + 2)) (orF (cIn V 0 23 (i + 3)) (cIn V (V (i + 3)) 23 (i + 4))))
  else if k = 5 then orF (cOld V T 1 (i + 1)) (cOld V T 2 (i + 2))
  else if k = 6 then orF (cOld V T 1 (i + 1)) (orF (cOld V T 2 (i + 2)) (cIn V 0 23 (i + 3)))
  else if k = 7 then orF (cNew V T (i + 1)) (orF (cOld V T 2 (i + 2)) (cIn V 1 99 (i + 3)))
  else if k = 8 then orF (cNew V T (i + 1)) (tsk K V T 401 0 (i + 2)).1
  else none
def isNm (k : Nat) : Bool := k == 0 || (k == 1 || (k == 2 || (k == 7 || k == 8)))
def semT (V : Nat → Nat) (T : NTb) (k m i : Nat) : NTb := if isNm k = true then T ++ [(V (i + 1), k, m)] else T
def wS (W : VW) (r m v : Nat) : VW := fun a j => if a = r ∧ j = m then v else W a j
def oN (V : Nat → Nat) (T : NTb) (k j : Nat) : Nat := (oldN V T k j).getD 0
def semW (K V : Nat → Nat) (T : NTb) (k m i : Nat) (W : VW) : VW :=
  if k = 1 then wS (wS W 1 m (V (i + 2))) 2 m (bth K V i)
  else if k = 2 then wS W 3 m (V (i + 2))
  else if k = 3 then wS (wS W 4 m (oN V T 0 (i + 1))) 5 m (oN V T 0 (i + 2))
  else if k = 4 then wS (wS (wS (wS W 6 m (oN V T 1 (i + 1))) 7 m (oN V T 0 (i + 2))) 8 m (V (i + 3))) 9 m (V (i + 4))
  else if k = 5 then wS (wS W 10 m (oN V T 1 (i + 1))) 11 m (oN V T 2 (i + 2))
  else if k = 6 then wS (wS (wS W 12 m (oN V T 1 (i + 1))) 13 m (oN V T 2 (i + 2))) 14 m (V (i + 3))
  else if k = 7 then wS (wS W 15 m (oN V T 2 (i + 2))) 16 m (V (i + 3))
  else if k = 8 then wS W 17 m (tsk K V T 401 0 (i + 2)).2
  else W
/-- what has been told: names, numbers, the first fault -/
abbrev SM : Type := NTb × VW × SF
def seT (K V : Nat → Nat) (cnt : Nat → Nat) (i : Nat) (M : SM) : SM :=
  if M.2.2.isSome = true then M
  else if (semF K V M.1 (K i) i).isSome = true then (M.1, M.2.1, semF K V M.1 (K i) i)
  else (semT V M.1 (K i) (cnt (K i)) i, semW K V M.1 (K i) (cnt (K i)) i M.2.1, none)
/-- the tells one by one, to the end -/
def smR (K V : Nat → Nat) : Nat → SY → SM → SM
  | 0, _, M => M
  | n + 1, Y, M => if Y.1.1 ≠ 0 ∨ K Y.1.2 = 35 then M else if (syT K V Y).1.1 = 0 then smR K V n (syT K V Y) (seT K V Y.2.1 Y.1.2 M) else M
theorem orF_n {b : SF} : orF none b = b := rfl
theorem orF_s {x : Nat × Nat} {b : SF} : orF (some x) b = some x := rfl
theorem orF_assoc (a b d : SF) : orF (orF a b) d = orF a (orF b d) := by cases a <;> rfl
theorem orF_r (a : SF) : orF a none = a := by cases a <;> rfl
theorem tkV_lt {c : Nat → Nat} {L j : Nat} (h : tkK c L j = 21) : tkV c L j < 10000 := by
  unfold tkK at h
  unfold tkV
  split
  case isFalse => decide
  rename_i hs
  rw [if_pos hs] at h
  unfold lxK at h
  unfold lxV
  by_cases h1 : isLt (c (tkS c L j)) = true
  · rw [if_pos h1] at h
    split at h
    · have := kw_le (wd c (tkS c L j) (eor isLt c L (tkS c L j) - tkS c L j)); omega
    · omega
  rw [if_neg h1] at h ⊢
  by_cases h2 : isDg (c (tkS c L j)) = true
  · rw [if_pos h2] at h ⊢
    split at h
    case isFalse => omega
    rename_i h4
    rw [if_pos h4]
    have hd := dg_lt (c := c) (i := tkS c L j) (eor isDg c L (tkS c L j) - tkS c L j) (fun i hi => (eor_spec (P := isDg) (c := c) (L := L) (i := tkS c L j) (by omega)).2.2.1 (tkS c L j + i) (by omega) (by omega))
    have : 10 ^ (eor isDg c L (tkS c L j) - tkS c L j) ≤ 10 ^ 4 := Nat.pow_le_pow_right (by decide) h4
    omega
  · rw [if_neg h2]; decide
/-- the first fault in what is said, by the reference -/
def WR (c : Nat → Nat) (L : Nat) (sf : SF) (S : ST) : Prop := (sf = none → S.1 95 15 = 0) ∧ ∀ x, sf = some x → S.1 95 15 = nI x.1 ∧ S.1 95 16 = nI (tkS c L x.2) ∧ x.1 ≠ 0 ∧ x.1 < 10
def XWr (a j : Nat) : Bool := a == 95 && (j == 15 || j == 16)
def XSm (a j : Nat) : Bool := a == 95 && ((j == 11 || (j == 13 || j == 14)) || (j == 15 || j == 16))
theorem XWr_Sm {S S' : ST} (d : Df XWr S S') : Df XSm S S' := d.mono (fun a j hx => by
  simp only [XSm, XWr, Bool.or_eq_false_iff, Bool.and_eq_false_iff, beq_eq_false_iff_ne] at hx ⊢
  omega)
theorem XFl_Sm {S S' : ST} (d : Df XFl S S') : Df XSm S S' := d.mono (fun a j hx => by
  simp only [XSm, XFl, Bool.or_eq_false_iff, Bool.and_eq_false_iff, beq_eq_false_iff_ne] at hx ⊢
  omega)
section RSE
variable {n L : Nat} {c : Nat → Nat} {S : ST}
theorem RTk.sm {S S' : ST} (h : RTk c L S) (d : Df XSm S S') : RTk c L S' := h.d2 (D2.of (Y := YN) d) (fun a j h1 h2 => by
  simp only [XSm, Bool.and_eq_false_iff, beq_eq_false_iff_ne]
  omega) rfl
theorem WR.fr {sf : SF} {S S' : ST} (h : WR c L sf S) (e : ∀ j, j = 15 ∨ j = 16 → S'.1 95 j = S.1 95 j) : WR c L sf S' := by
  unfold WR
  rw [e 15 (by omega), e 16 (by omega)]
  exact h
/-- faults come one behind another -/
def SFb (sf : SF) (j : Nat) : Prop := ∀ x, sf = some x → x.2 < j
theorem SFb.mono {sf : SF} {j j' : Nat} (h : SFb sf j) (hj : j ≤ j') : SFb sf j' := fun x hx => Nat.lt_of_lt_of_le (h x hx) hj
theorem r_wrong {f j : Nat} {y : Nat × Nat} {sf : SF} (hT : RTk c L S) (hy : RY c L y S) (hw1 : y.1 ≤ 2) (hj : j ≤ 400) (hv : ∀ i, i < j → tkK c L i ≠ 35) (hf : f ≠ 0) (hf2 : f < 10) (hW : WR c L sf S) (hb : ∀ x, sf = some x → x.2 < j ∨ x = (f, j)) (hLb : L ≤ 2000) : Ok (E_X12_wrong n S (nI f) (nI j)) (fun S' => Df XWr S S' ∧ (y.1 = 0 → WR c L (orF sf (some (f, j))) S')) := by
  have hs := tkS_le (c := c) (L := L) j
  unfold E_X12_wrong
  apply Ok.step (rd_nI (by omega) (by decide))
  rw [(hT j hj hv).2.1, hy.1]
  by_cases c0 : y.1 = 0
  case neg => exact Ok.ifT (nI_lt (a := 0) (by omega) (by omega)) (Ok.ret ⟨Df.refl _ _, fun z => absurd z c0⟩)
  refine Ok.ifF (by rw [c0]; decide) ?_
  apply Ok.jnU
  cases sf with
  | none =>
    refine Ok.ifT (hW.1 rfl) ?_
    apply Ok.letsU
    apply Ok.letsU
    refine Ok.ret ⟨((Df.refl _ _).up rfl).up rfl, fun _ => ⟨(fun z => by cases z), fun x hx => ?_⟩⟩
    have hx' : (f, j) = x := Option.some.inj hx
    subst hx'
    refine ⟨?_, ?_, hf, hf2⟩
    · rw [upI_at, if_neg (by omega), upI_at, if_pos ⟨rfl, rfl⟩]
    · rw [upI_at, if_pos ⟨rfl, rfl⟩]
  | some x =>
    obtain ⟨w1, w2, w3, w4⟩ := hW.2 x rfl
    have hx := tkS_le (c := c) (L := L) x.2
    refine Ok.ifF (fun z => w3 ?_) ?_
    · rw [w1] at z
      exact (nI_eq (b := 0) (by omega) (by decide)).mp z
    rw [w2]
    have keep : Df XWr S S ∧ (y.1 = 0 → WR c L (orF (some x) (some (f, j))) S) := ⟨Df.refl _ _, fun _ => hW⟩
    rcases hb x rfl with h | h
    · have hlt : tkS c L x.2 < tkS c L j := tkS_mono h (by
        have h1 := hv x.2 h
        have h2 : tkS c L x.2 ≠ L := fun z => h1 (tkK_end.mpr z)
        omega)
      exact Ok.ifT (nI_lt hlt (by omega)) (Ok.ret keep)
    · rw [h] at w1 w2 ⊢
      dsimp only at w1 w2 ⊢
      refine Ok.ifF (nI_nlt (Nat.le_refl _) (by omega)) (Ok.ifT rfl (Ok.ifF (by rw [w1]; exact nI_nlt (Nat.le_refl _) (by omega)) (Ok.ret ?_)))
      rw [h] at keep
      exact keep
theorem r_bounded {lo hi : Nat} {y : Nat × Nat} {sf : SF} (hT : RTk c L S) (hy : RY c L y S) (hw : yW (tkK c L) y) (hlo : lo < 10000) (hhi : hi < 10000) (hW : y.1 = 0 → WR c L sf S ∧ SFb sf y.2) (hLb : L ≤ 2000) : Ok (E_X12_bounded n S (nI lo) (nI hi)) (fun r => Df XSm S r.2 ∧ RY c L (tk (tkK c L) 21 y) r.2 ∧ ((tk (tkK c L) 21 y).1 = 0 → r.1 = nI (tkV c L y.2) ∧ WR c L (orF sf (cIn (tkV c L) lo hi y.2)) r.2) ∧ ∃ u, u < 10000 ∧ r.1 = nI u) := by
  have hw1 := hw.1
  have hw2 := hw.2.1
  unfold E_X12_bounded
  apply Ok.jnU
  have no : (y.1 = 0 → tkK c L y.2 ≠ 21) → Ok ((E_X12_fail n S (1 : Int32)).bind fun S2 => some (nI lo, S2)) (fun r => Df XSm S r.2 ∧ RY c L (tk (tkK c L) 21 y) r.2 ∧ ((tk (tkK c L) 21 y).1 = 0 → r.1 = nI (tkV c L y.2) ∧ WR c L (orF sf (cIn (tkV c L) lo hi y.2)) r.2) ∧ ∃ u, u < 10000 ∧ r.1 = nI u) := fun h => by
    obtain ⟨S1, e1, d1, y1, _⟩ := r_fail (n := n) (f := 1) hT hy hw
    apply Ok.step (show E_X12_fail n S (1 : Int32) = some S1 from e1)
    have e : (if y.1 = 0 then (1, y.2) else y) = tk (tkK c L) 21 y := by
      by_cases c0 : y.1 = 0
      · rw [if_pos c0, tk_n c0 (h c0)]
      · rw [if_neg c0, tk_f c0]
    rw [e] at y1
    refine Ok.ret ⟨XFl_Sm d1, y1, fun z => ?_, lo, hlo, rfl⟩
    obtain ⟨a1, a2, _⟩ := tk_0 z
    exact absurd a2 (h a1)
  rw [hy.1]
  by_cases c0 : y.1 = 0
  case neg => exact Ok.ifT (nI_lt (a := 0) (by omega) (by omega)) (no (fun z => absurd z c0))
  refine Ok.ifF (by rw [c0]; decide) ?_
  have e1 : E_X12_is n S (2 : Int32) = _ := r_is (n := n) (k := 21) hT hy hw (by decide)
  apply Ok.step e1
  by_cases c1 : tkK c L y.2 = 21
  case neg => exact Ok.ifT (by rw [decide_eq_false (fun z => c1 z.2)]; rfl) (no (fun _ => c1))
  refine Ok.ifF (by rw [decide_eq_true ⟨c0, c1⟩]; decide) ?_
  rw [hy.2.1 c0]
  apply Ok.step (rd_nI (by omega) (by decide))
  rw [(hT y.2 hw2 hw.2.2).2.2.1 c1]
  obtain ⟨hWR, hSb⟩ := hW c0
  have hv := tkV_lt c1
  apply Ok.jnU
  -- the token goes by
  have go : ∀ S1, Df XSm S S1 → RY c L y S1 → WR c L (orF sf (cIn (tkV c L) lo hi y.2)) S1 → Ok ((E_X12_goesOn n S1).bind fun S10 => some (nI (tkV c L y.2), S10)) (fun r => Df XSm S r.2 ∧ RY c L (tk (tkK c L) 21 y) r.2 ∧ ((tk (tkK c L) 21 y).1 = 0 → r.1 = nI (tkV c L y.2) ∧ WR c L (orF sf (cIn (tkV c L) lo hi y.2)) r.2) ∧ ∃ u, u < 10000 ∧ r.1 = nI u) := fun S1 d1 y1 w1 => by
    obtain ⟨S2, f2, d2, y2⟩ := r_goesOn (n := n) (hT.sm d1) y1 hw
    apply Ok.step f2
    rw [← tk_gy (K := tkK c L) (k := 21) (fun _ => c1)] at y2
    exact Ok.ret ⟨d1.trans (XFl_Sm d2), y2, fun _ => ⟨rfl, w1.fr (fun j hj => d2.2 _ _ (by simp only [XFl, Bool.and_eq_false_iff, Bool.or_eq_false_iff, beq_eq_false_iff_ne]; omega))⟩, _, hv, rfl⟩
  apply Ok.jnU
  have bad : ¬ (lo ≤ tkV c L y.2 ∧ tkV c L y.2 ≤ hi) → Ok ((E_X12_wrong n S (5 : Int32) (nI y.2)).bind fun S13 => (E_X12_goesOn n S13).bind fun S10 => some (nI (tkV c L y.2), S10)) (fun r => Df XSm S r.2 ∧ RY c L (tk (tkK c L) 21 y) r.2 ∧ ((tk (tkK c L) 21 y).1 = 0 → r.1 = nI (tkV c L y.2) ∧ WR c L (orF sf (cIn (tkV c L) lo hi y.2)) r.2) ∧ ∃ u, u < 10000 ∧ r.1 = nI u) := fun h => by
    obtain ⟨S1, f1, d1, w1⟩ := r_wrong (n := n) (f := 5) (j := y.2) hT hy hw1 hw2 hw.2.2 (by decide) (by decide) hWR (fun x hx => Or.inl (hSb x hx)) hLb
    apply Ok.step (show E_X12_wrong n S (5 : Int32) (nI y.2) = some S1 from f1)
    refine go S1 (XWr_Sm d1) (hy.fr (fun j hj => d1.2 _ _ (by simp only [XWr, Bool.and_eq_false_iff, Bool.or_eq_false_iff, beq_eq_false_iff_ne]; omega))) ?_
    have : cIn (tkV c L) lo hi y.2 = some (5, y.2) := if_neg h
    rw [this]
    exact w1 c0
  by_cases c2 : lo ≤ tkV c L y.2
  case neg => exact Ok.ifT (nI_lt (by omega) (by omega)) (bad (fun z => c2 z.1))
  refine Ok.ifF (nI_nlt c2 (by omega)) ?_
  by_cases c3 : tkV c L y.2 ≤ hi
  case neg => exact Ok.ifF (nI_ge (by omega) (by omega)) (bad (fun z => c3 z.2))
  refine Ok.ifT (nI_le c3 (by omega)) ?_
  have e2 : cIn (tkV c L) lo hi y.2 = none := if_pos ⟨c2, c3⟩
  exact go S (Df.refl _ _) hy (by rw [e2, orF_r]; exact hWR)
end RSE
