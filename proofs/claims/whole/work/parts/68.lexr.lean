/-! ===== the reference cuts a text ===== -/
def XRc (a j : Nat) : Bool := a == 98 || (a == 99 || (a == 100 || (a == 95 && j == 10)))
def YRc (a : Nat) : Bool := a == 101
def KWr (S : ST) : Prop := ∀ j, j < 20 → S.2 102 j = nL (keyN j)
/-- a token that the reference has cut -/
def RTok (c : Nat → Nat) (L j : Nat) (S : ST) : Prop := S.1 98 j = nI (kR (tkK c L j)) ∧ S.1 99 j = nI (tkS c L j) ∧ (tkK c L j = 21 → S.1 100 j = nI (tkV c L j)) ∧ (tkK c L j = 20 → S.2 101 j = nL (tkV c L j))
def RTk (c : Nat → Nat) (L : Nat) (S : ST) : Prop := ∀ j, j ≤ 400 → (∀ i, i < j → tkK c L i ≠ 35) → RTok c L j S
theorem RTk.d2 {c : Nat → Nat} {L : Nat} {X : Nat → Nat → Bool} {Y : Nat → Bool} {S S' : ST} (h : RTk c L S) (d : D2 X Y S S') (hx : ∀ a j, 98 ≤ a → a ≤ 100 → X a j = false) (hy : Y 101 = false) : RTk c L S' := fun j h1 h2 => by
  obtain ⟨a1, a2, a3, a4⟩ := h j h1 h2
  refine ⟨by rw [d.2 _ _ (hx _ _ (by omega) (by omega))]; exact a1, by rw [d.2 _ _ (hx _ _ (by omega) (by omega))]; exact a2, fun z => by rw [d.2 _ _ (hx _ _ (by omega) (by omega))]; exact a3 z, fun z => by rw [d.1 _ hy]; exact a4 z⟩
def RT (c : Nat → Nat) (L z : Nat) (S : ST) : Prop := S.1 95 10 = nI z ∧ ∀ j, j < z → tkS c L j < L ∧ RTok c L j S
section RLX
variable {n L : Nat} {c : Nat → Nat} {S : ST}
def byA (c : Nat → Nat) (L i : Nat) : Nat := if i < L then c i else 0
theorem r_byte {i : Nat} (hB : TB c L 97 S) (hs : S.1 95 4 = nI L) (hi : i < 2 ^ 31) : E_X12_byteAt n S (nI i) = some (nI (byA c L i)) := by
  have hL := hB.1
  unfold E_X12_byteAt byA
  rw [hs]
  by_cases g : i < L
  · obtain ⟨b1, b2⟩ := hB.2 i g
    rw [if_neg (nI_ge g (by omega)), rd_nI (by omega) (by decide), Option.bind_some, b2, bv_and b1, if_pos g]
  · rw [if_pos (nI_le (by omega) hi), if_neg g]; rfl
theorem byA_lt (hB : TB c L 97 S) (i : Nat) : byA c L i < 256 := by
  unfold byA
  split
  · exact (hB.2 i (by assumption)).1
  · decide
set_option maxRecDepth 100000 in
theorem r_isLet {x : Nat} (hx : x < 256) : E_X12_isLetter n S (nI x) = some (bI (isLt x)) := by
  have h : ∀ k : Fin 256, E_X12_isLetter 0 S00 (nI k.val) = some (bI (isLt k.val)) := by decide
  exact h ⟨x, hx⟩
set_option maxRecDepth 100000 in
theorem r_isDig {x : Nat} (hx : x < 256) : E_X12_isDigit n S (nI x) = some (bI (isDg x)) := by
  have h : ∀ k : Fin 256, E_X12_isDigit 0 S00 (nI k.val) = some (bI (isDg k.val)) := by decide
  exact h ⟨x, hx⟩
theorem r_app {a x : Nat} (h : isLt x = true) : E_X12_appends n S (nL a) (nI x) = some (nL (27 * a + (x - 96))) := by
  have h2 := h
  simp only [isLt, Bool.and_eq_true, decide_eq_true_eq] at h2
  unfold E_X12_appends
  simp only [jn]
  rw [if_neg (fun z => by have := (nI_eq (b := 0) (by omega) (by decide)).mp z; omega), Int64.mul_comm, nL_letter h]
theorem r_tput {z : Nat} {k p v : Nat} {nm : Int64} (e : S.1 95 10 = nI z) (hz : z < 403) : Ok (E_X12_token n S (nI k) (nI p) (nI v) nm) (fun S' => D2 XRc YRc S S' ∧ S'.1 95 10 = nI (z + 1) ∧ S'.1 98 z = nI k ∧ S'.1 99 z = nI p ∧ S'.1 100 z = nI v ∧ S'.2 101 z = nm ∧ ∀ j, j ≠ z → S'.1 98 j = S.1 98 j ∧ S'.1 99 j = S.1 99 j ∧ S'.1 100 j = S.1 100 j ∧ S'.2 101 j = S.2 101 j) := by
  unfold E_X12_token
  rw [e]
  apply Ok.step (wr_nI (by omega) (by decide))
  rw [upI_at, if_neg (by omega), e]
  apply Ok.step (wr_nI (by omega) (by decide))
  rw [upI_at, if_neg (by omega), upI_at, if_neg (by omega), e]
  apply Ok.step (wr_nI (by omega) (by decide))
  rw [upI_at, if_neg (by omega), upI_at, if_neg (by omega), upI_at, if_neg (by omega), e]
  apply Ok.step (wrl_nI (by omega) (by decide))
  apply Ok.letsU
  refine Ok.ret ⟨(((((D2.refl _ _ _).up rfl).up rfl).up rfl).upl rfl).up rfl, ?_, ?_, ?_, ?_, ?_, fun j hj => ⟨?_, ?_, ?_, ?_⟩⟩
  · rw [upI_at, if_pos ⟨rfl, rfl⟩, upL_1, upI_at, if_neg (by omega), upI_at, if_neg (by omega), upI_at, if_neg (by omega), e, nI_1]
  · rw [upI_at, if_neg (by omega), upL_1, upI_at, if_neg (by omega), upI_at, if_neg (by omega), upI_at, if_pos ⟨rfl, rfl⟩]
  · rw [upI_at, if_neg (by omega), upL_1, upI_at, if_neg (by omega), upI_at, if_pos ⟨rfl, rfl⟩]
  · rw [upI_at, if_neg (by omega), upL_1, upI_at, if_pos ⟨rfl, rfl⟩]
  · show (upL _ 101 z nm).2 101 z = _
    rw [upL_at, if_pos ⟨rfl, rfl⟩]
  · rw [upI_at, if_neg (by omega), upL_1, upI_at, if_neg (by omega), upI_at, if_neg (by omega), upI_at, if_neg (by omega)]
  · rw [upI_at, if_neg (by omega), upL_1, upI_at, if_neg (by omega), upI_at, if_neg (by omega), upI_at, if_neg (by omega)]
  · rw [upI_at, if_neg (by omega), upL_1, upI_at, if_neg (by omega), upI_at, if_neg (by omega), upI_at, if_neg (by omega)]
  · show (upL _ 101 z nm).2 101 j = _
    rw [upL_at, if_neg (by omega)]; rfl
theorem sg_chain {β : Type} {x : Nat} (hx : x < 256) (f : Int32 → Option β) : (if nI x = (59 : Int32) then f (4 : Int32) else if nI x = (40 : Int32) then f (6 : Int32) else if nI x = (41 : Int32) then f (7 : Int32) else if nI x = (43 : Int32) then f (8 : Int32) else if nI x = (45 : Int32) then f (9 : Int32) else if nI x = (42 : Int32) then f (10 : Int32) else if nI x = (60 : Int32) then f (13 : Int32) else if nI x = (47 : Int32) then f (15 : Int32) else if nI x = (44 : Int32) then f (5 : Int32) else f (3 : Int32)) = f (nI (kR (sgK x))) := by
  have q : ∀ k, k < 256 → x ≠ k → ¬ nI x = nI k := fun k hk h z => h ((nI_eq (by omega) (by omega)).mp z)
  by_cases h1 : x = 59
  · subst h1; rfl
  rw [if_neg (show ¬ nI x = (59 : Int32) from q 59 (by decide) h1)]
  by_cases h2 : x = 40
  · subst h2; rfl
  rw [if_neg (show ¬ nI x = (40 : Int32) from q 40 (by decide) h2)]
  by_cases h3 : x = 41
  · subst h3; rfl
  rw [if_neg (show ¬ nI x = (41 : Int32) from q 41 (by decide) h3)]
  by_cases h4 : x = 43
  · subst h4; rfl
  rw [if_neg (show ¬ nI x = (43 : Int32) from q 43 (by decide) h4)]
  by_cases h5 : x = 45
  · subst h5; rfl
  rw [if_neg (show ¬ nI x = (45 : Int32) from q 45 (by decide) h5)]
  by_cases h6 : x = 42
  · subst h6; rfl
  rw [if_neg (show ¬ nI x = (42 : Int32) from q 42 (by decide) h6)]
  by_cases h7 : x = 60
  · subst h7; rfl
  rw [if_neg (show ¬ nI x = (60 : Int32) from q 60 (by decide) h7)]
  by_cases h8 : x = 47
  · subst h8; rfl
  rw [if_neg (show ¬ nI x = (47 : Int32) from q 47 (by decide) h8)]
  by_cases h9 : x = 44
  · subst h9; rfl
  rw [if_neg (show ¬ nI x = (44 : Int32) from q 44 (by decide) h9)]
  have e : sgK x = 34 := by
    unfold sgK
    rw [if_neg h2, if_neg h3, if_neg h6, if_neg h4, if_neg h9, if_neg h5, if_neg h8, if_neg h1, if_neg h7]
  rw [e]; rfl
/-- the token at a place is put -/
def RPut (c : Nat → Nat) (L i z : Nat) (S S' : ST) : Prop := D2 XRc YRc S S' ∧ S'.1 95 10 = nI (z + 1) ∧ S'.1 98 z = nI (kR (lxK c L i)) ∧ S'.1 99 z = nI i ∧ (lxK c L i = 21 → S'.1 100 z = nI (lxV c L i)) ∧ (lxK c L i = 20 → S'.2 101 z = nL (lxV c L i)) ∧ ∀ j, j ≠ z → S'.1 98 j = S.1 98 j ∧ S'.1 99 j = S.1 99 j ∧ S'.1 100 j = S.1 100 j ∧ S'.2 101 j = S.2 101 j
theorem r_sign {i z : Nat} (hB : TB c L 97 S) (hi : i < L) (e : S.1 95 10 = nI z) (hz : z < 403) (h1 : isLt (c i) = false) (h2 : isDg (c i) = false) : Ok (E_X12_sign n S (nI i) (nI (c i)) (nI (byA c L (i + 1)))) (fun r => nI i + r.1 = nI (lxE c L i) ∧ RPut c L i z S r.2) := by
  have hL := hB.1
  obtain ⟨b1, b2⟩ := hB.2 i hi
  have b3 := byA_lt hB (i + 1)
  have h1' : ¬ isLt (c i) = true := by rw [h1]; decide
  have h2' : ¬ isDg (c i) = true := by rw [h2]; decide
  have q : ∀ k, k < 256 → c i ≠ k → ¬ nI (c i) = nI k := fun k hk h z => h ((nI_eq (by omega) (by omega)).mp z)
  have short : two c L i = false → Ok (if (0 : Int32) ≤ 0 then (fun (j6 : Int32 → Option (Int32 × ST)) => if nI (c i) = (59 : Int32) then j6 (4 : Int32) else if nI (c i) = (40 : Int32) then j6 (6 : Int32) else if nI (c i) = (41 : Int32) then j6 (7 : Int32) else if nI (c i) = (43 : Int32) then j6 (8 : Int32) else if nI (c i) = (45 : Int32) then j6 (9 : Int32) else if nI (c i) = (42 : Int32) then j6 (10 : Int32) else if nI (c i) = (60 : Int32) then j6 (13 : Int32) else if nI (c i) = (47 : Int32) then j6 (15 : Int32) else if nI (c i) = (44 : Int32) then j6 (5 : Int32) else j6 (3 : Int32)) (fun u2 => (E_X12_token n S u2 (nI i) (0 : Int32) (0 : Int64)).bind fun S4 => if (0 : Int32) ≤ 0 then some ((1 : Int32), S4) else some ((2 : Int32), S4)) else (E_X12_token n S (0 : Int32) (nI i) (0 : Int32) (0 : Int64)).bind fun S4 => if (0 : Int32) ≤ 0 then some ((1 : Int32), S4) else some ((2 : Int32), S4)) (fun r => nI i + r.1 = nI (lxE c L i) ∧ RPut c L i z S r.2) := fun h3 => by
    have h3' : ¬ two c L i = true := by rw [h3]; decide
    have eE : lxE c L i = i + 1 := by unfold lxE; rw [if_neg h1', if_neg h2', if_neg h3']
    have eK : lxK c L i = sgK (c i) := by unfold lxK; rw [if_neg h1', if_neg h2', if_neg h3']
    refine Ok.ifT (by decide) ?_
    dsimp only
    rw [sg_chain b1 (fun u2 => (E_X12_token n S u2 (nI i) (0 : Int32) (0 : Int64)).bind fun S4 => if (0 : Int32) ≤ 0 then some ((1 : Int32), S4) else some ((2 : Int32), S4))]
    obtain ⟨S1, f1, d1, f2, f3, f4, f5, f6, f7⟩ := r_tput (n := n) (k := kR (sgK (c i))) (p := i) (v := 0) (nm := 0) e hz
    apply Ok.step (show E_X12_token n S (nI (kR (sgK (c i)))) (nI i) (0 : Int32) (0 : Int64) = some S1 from f1)
    refine Ok.ifT (by decide) (Ok.ret ⟨?_, d1, f2, ?_, f4, ?_, ?_, f7⟩)
    · rw [eE]; exact nI_1 _
    · rw [eK]; exact f3
    · rw [eK]; intro z
      have : ∀ x, sgK x ≠ 21 := fun x => by unfold sgK; repeat' split
                                            all_goals decide
      exact absurd z (this _)
    · rw [eK]; intro z
      have : ∀ x, sgK x ≠ 20 := fun x => by unfold sgK; repeat' split
                                            all_goals decide
      exact absurd z (this _)
  have long : ∀ k k', two c L i = true → k < 36 → lxK c L i = k → kR k = k' → 0 < k' → k' < 100 → k ≠ 20 → k ≠ 21 → Ok (if nI k' ≤ 0 then (fun (j6 : Int32 → Option (Int32 × ST)) => if nI (c i) = (59 : Int32) then j6 (4 : Int32) else if nI (c i) = (40 : Int32) then j6 (6 : Int32) else if nI (c i) = (41 : Int32) then j6 (7 : Int32) else if nI (c i) = (43 : Int32) then j6 (8 : Int32) else if nI (c i) = (45 : Int32) then j6 (9 : Int32) else if nI (c i) = (42 : Int32) then j6 (10 : Int32) else if nI (c i) = (60 : Int32) then j6 (13 : Int32) else if nI (c i) = (47 : Int32) then j6 (15 : Int32) else if nI (c i) = (44 : Int32) then j6 (5 : Int32) else j6 (3 : Int32)) (fun u2 => (E_X12_token n S u2 (nI i) (0 : Int32) (0 : Int64)).bind fun S4 => if nI k' ≤ 0 then some ((1 : Int32), S4) else some ((2 : Int32), S4)) else (E_X12_token n S (nI k') (nI i) (0 : Int32) (0 : Int64)).bind fun S4 => if nI k' ≤ 0 then some ((1 : Int32), S4) else some ((2 : Int32), S4)) (fun r => nI i + r.1 = nI (lxE c L i) ∧ RPut c L i z S r.2) := fun k k' h3 hk eK ek h4 h5 h6 h7 => by
    have eE : lxE c L i = i + 2 := by unfold lxE; rw [if_neg h1', if_neg h2', if_pos h3]
    refine Ok.ifF (nI_nle h4 (by omega)) ?_
    obtain ⟨S1, f1, d1, f2, f3, f4, f5, f6, f8⟩ := r_tput (n := n) (k := k') (p := i) (v := 0) (nm := 0) e hz
    apply Ok.step (show E_X12_token n S (nI k') (nI i) (0 : Int32) (0 : Int64) = some S1 from f1)
    refine Ok.ifF (nI_nle h4 (by omega)) (Ok.ret ⟨?_, d1, f2, ?_, f4, ?_, ?_, f8⟩)
    · rw [eE, show (2 : Int32) = nI 2 from rfl, nI_add]
    · rw [eK, ek]; exact f3
    · rw [eK]; exact fun z => absurd z h7
    · rw [eK]; exact fun z => absurd z h6
  unfold E_X12_sign
  simp only [jn]
  have eK : two c L i = true → lxK c L i = (if c i = 60 then 31 else if c i = 61 then 28 else 29) := fun h3 => by unfold lxK; rw [if_neg h1', if_neg h2', if_pos h3]
  by_cases c2 : byA c L (i + 1) = 61
  case neg =>
    refine Ok.ifF (fun z => c2 ((nI_eq (b := 61) (by omega) (by decide)).mp z)) ?_
    refine short ?_
    unfold two
    by_cases g : i + 1 < L
    · unfold byA at c2
      rw [if_pos g] at c2
      rw [beq_eq_false_iff_ne.mpr c2, Bool.false_and, Bool.and_false]
    · rw [decide_eq_false g]; rfl
  refine Ok.ifT (by rw [c2]; rfl) ?_
  have hg : i + 1 < L := by
    unfold byA at c2
    by_cases g : i + 1 < L
    · exact g
    · rw [if_neg g] at c2; omega
  have c3 : c (i + 1) = 61 := by
    unfold byA at c2
    rw [if_pos hg] at c2; exact c2
  have et : two c L i = (c i == 61 || (c i == 33 || c i == 60)) := by unfold two; rw [decide_eq_true hg, c3]; rfl
  by_cases g1 : c i = 61
  · refine Ok.ifT (by rw [g1]; rfl) ?_
    have h3 : two c L i = true := by rw [et, g1]; rfl
    exact long 28 11 h3 (by decide) (by rw [eK h3, g1]; rfl) rfl (by decide) (by decide) (by decide) (by decide)
  refine Ok.ifF (q 61 (by decide) g1) ?_
  by_cases g2 : c i = 33
  · refine Ok.ifT (by rw [g2]; rfl) ?_
    have h3 : two c L i = true := by rw [et, g2]; rfl
    exact long 29 12 h3 (by decide) (by rw [eK h3, g2]; rfl) rfl (by decide) (by decide) (by decide) (by decide)
  refine Ok.ifF (q 33 (by decide) g2) ?_
  by_cases g3 : c i = 60
  · refine Ok.ifT (by rw [g3]; rfl) ?_
    have h3 : two c L i = true := by rw [et, g3]; rfl
    exact long 31 14 h3 (by decide) (by rw [eK h3, g3]; rfl) rfl (by decide) (by decide) (by decide) (by decide)
  refine Ok.ifF (q 60 (by decide) g3) ?_
  refine short ?_
  rw [et, beq_eq_false_iff_ne.mpr g1, beq_eq_false_iff_ne.mpr g2, beq_eq_false_iff_ne.mpr g3]; rfl
end RLX
