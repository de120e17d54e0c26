/-! ===== the class cuts a text: all of it ===== -/
theorem sw_lt {α : Type} {x : Nat} {A Z : α} (hx : x < 256) (h : isLt x = false) : (if bv x < (97 : Int32) then A else if (122 : Int32) < bv x then A else Z) = A := by
  by_cases h1 : bv x < (97 : Int32)
  · rw [if_pos h1]
  · rw [if_neg h1, if_pos]
    have h2 := mt (bv_lt (k := 97) hx (by decide)).mpr h1
    refine (bv_gt (k := 122) hx (by decide)).mpr ?_
    simp only [isLt, Bool.and_eq_false_iff, decide_eq_false_iff_not] at h
    omega
theorem sw_lt' {α : Type} {x : Nat} {A Z : α} (hx : x < 256) (h : isLt x = true) : (if bv x < (97 : Int32) then A else if (122 : Int32) < bv x then A else Z) = Z := by
  simp only [isLt, Bool.and_eq_true, decide_eq_true_eq] at h
  rw [if_neg (fun z => by have := (bv_lt (k := 97) hx (by decide)).mp z; omega), if_neg (fun z => by have := (bv_gt (k := 122) hx (by decide)).mp z; omega)]
theorem sw_dg {α : Type} {x : Nat} {A Z : α} (hx : x < 256) (h : isDg x = false) : (if bv x < (48 : Int32) then A else if (57 : Int32) < bv x then A else Z) = A := by
  by_cases h1 : bv x < (48 : Int32)
  · rw [if_pos h1]
  · rw [if_neg h1, if_pos]
    have h2 := mt (bv_lt (k := 48) hx (by decide)).mpr h1
    refine (bv_gt (k := 57) hx (by decide)).mpr ?_
    simp only [isDg, Bool.and_eq_false_iff, decide_eq_false_iff_not] at h
    omega
theorem sw_dg' {α : Type} {x : Nat} {A Z : α} (hx : x < 256) (h : isDg x = true) : (if bv x < (48 : Int32) then A else if (57 : Int32) < bv x then A else Z) = Z := by
  simp only [isDg, Bool.and_eq_true, decide_eq_true_eq] at h
  rw [if_neg (fun z => by have := (bv_lt (k := 48) hx (by decide)).mp z; omega), if_neg (fun z => by have := (bv_gt (k := 57) hx (by decide)).mp z; omega)]
def S00 : ST := (fun _ _ => 0, fun _ _ => 0)
set_option maxRecDepth 100000 in
theorem c_short {n : Nat} {S : ST} {x : Nat} (hx : x < 256) : E_X9_shortSign n S (bv x) = some (nI (sgK x)) := by
  have h : ∀ k : Fin 256, E_X9_shortSign 0 S00 (bv k.val) = some (nI (sgK k.val)) := by decide
  exact h ⟨x, hx⟩
set_option maxRecDepth 100000 in
theorem c_long {n : Nat} {S : ST} {x : Nat} (hx : x < 256) : E_X9_longSign n S (bv x) = some (nI (if x = 60 then 31 else if x = 61 then 28 else 29)) := by
  have h : ∀ k : Fin 256, E_X9_longSign 0 S00 (bv k.val) = some (nI (if k.val = 60 then 31 else if k.val = 61 then 28 else 29)) := by decide
  exact h ⟨x, hx⟩
set_option maxRecDepth 100000 in
theorem c_befEq {n : Nat} {S : ST} {x : Nat} (hx : x < 256) : E_X9_isBeforeEqual n S (bv x) = some (bI (x == 61 || (x == 33 || x == 60))) := by
  have h : ∀ k : Fin 256, E_X9_isBeforeEqual 0 S00 (bv k.val) = some (bI (k.val == 61 || (k.val == 33 || k.val == 60))) := by decide
  exact h ⟨x, hx⟩
section CLX
variable {n L : Nat} {c : Nat → Nat} {S : ST}
theorem c_scanOne {i z : Nat} (hn : 30000 ≤ n) (hB : TB c L 9 S) (hK : KWc S) (hi : i < L) (e : S.1 10 4 = nI z) (hz : z < 402) : Ok (E_X9_scanOne n S (nI L) (nI i)) (fun r => r.1 = nI (lxE c L i) ∧ Put1 c L i z S r.2) := by
  have hL := hB.1
  obtain ⟨b1, b2⟩ := hB.2 i hi
  unfold E_X9_scanOne
  simp only [jn]
  apply Ok.step (rd_nI (by omega) (by decide))
  rw [b2]
  cases h1 : isLt (c i)
  case true =>
    rw [sw_lt' b1 h1]
    obtain ⟨r, e1, e2⟩ := c_scanWord hn hB hK hi e hz h1
    apply Ok.step e1
    exact Ok.ret e2
  rw [sw_lt b1 h1]
  cases h2 : isDg (c i)
  case true =>
    rw [sw_dg' b1 h2]
    obtain ⟨r, e1, e2⟩ := c_scanInt hn hB hi e hz h1 h2
    apply Ok.step e1
    exact Ok.ret e2
  rw [sw_dg b1 h2]
  have h1' : ¬ isLt (c i) = true := by rw [h1]; decide
  have h2' : ¬ isDg (c i) = true := by rw [h2]; decide
  have eV : lxV c L i = 0 := by unfold lxV; rw [if_neg h1', if_neg h2']
  have short : two c L i = false → Ok ((E_X9_shortSign n S (bv (c i))).bind fun v9 => (E_X9_put n S v9 (nI i) (0 : Int64)).bind fun S5 => if (0 : Int32) = 0 then some ((nI i + (1 : Int32)), S5) else some ((nI i + (2 : Int32)), S5)) (fun r => r.1 = nI (lxE c L i) ∧ Put1 c L i z S r.2) := fun h3 => by
    have h3' : ¬ two c L i = true := by rw [h3]; decide
    have eE : lxE c L i = i + 1 := by unfold lxE; rw [if_neg h1', if_neg h2', if_neg h3']
    have eK : lxK c L i = sgK (c i) := by unfold lxK; rw [if_neg h1', if_neg h2', if_neg h3']
    apply Ok.step (c_short b1)
    obtain ⟨S1, f1, f2⟩ := c_tput (n := n) (k := sgK (c i)) (p := i) (v := 0) e hz
    apply Ok.step (show E_X9_put n S (nI (sgK (c i))) (nI i) (0 : Int64) = some S1 from f1)
    refine Ok.ifT rfl (Ok.ret ⟨?_, ?_⟩)
    · rw [eE]; exact nI_1 _
    · unfold Put1; rw [eK, eV]; exact f2
  by_cases c1 : L ≤ i + 1
  · refine Ok.ifT (by rw [nI_1]; exact nI_le c1 (by omega)) ?_
    exact short (by unfold two; rw [decide_eq_false (by omega)]; rfl)
  refine Ok.ifF (by rw [nI_1]; exact nI_ge (by omega) (by omega)) ?_
  obtain ⟨b3, b4⟩ := hB.2 (i + 1) (by omega)
  rw [nI_1]
  apply Ok.step (rd_nI (by omega) (by decide))
  rw [b4]
  by_cases c2 : c (i + 1) = 61
  case neg =>
    refine Ok.ifF (fun z => c2 ((bv_eq (k := 61) b3 (by decide)).mp z)) ?_
    rw [← nI_1]
    exact short (by unfold two; rw [beq_eq_false_iff_ne.mpr c2, Bool.false_and, Bool.and_false])
  refine Ok.ifT ((bv_eq (k := 61) b3 (by decide)).mpr c2) ?_
  apply Ok.step (c_befEq b1)
  have et : two c L i = (c i == 61 || (c i == 33 || c i == 60)) := by unfold two; rw [decide_eq_true (by omega), c2]; rfl
  rw [← et]
  cases h3 : two c L i
  · refine Ok.ifT rfl ?_
    rw [← nI_1]
    exact short h3
  · refine Ok.ifF (by decide) (Ok.ifF (by decide) ?_)
    have eE : lxE c L i = i + 2 := by unfold lxE; rw [if_neg h1', if_neg h2', if_pos h3]
    have eK : lxK c L i = (if c i = 60 then 31 else if c i = 61 then 28 else 29) := by unfold lxK; rw [if_neg h1', if_neg h2', if_pos h3]
    apply Ok.step (c_long b1)
    obtain ⟨S1, f1, f2⟩ := c_tput (n := n) (k := if c i = 60 then 31 else if c i = 61 then 28 else 29) (p := i) (v := 0) e hz
    apply Ok.step (show E_X9_put n S (nI (if c i = 60 then 31 else if c i = 61 then 28 else 29)) (nI i) (0 : Int64) = some S1 from f1)
    refine Ok.ifF (by decide) (Ok.ret ⟨?_, ?_⟩)
    · rw [eE, show (2 : Int32) = nI 2 from rfl, nI_add]
    · unfold Put1; rw [eK, eV]; exact f2
theorem c_scan (hn : 30000 ≤ n) (hB : TB c L 9 S) (hK : KWc S) : Ok (E_X9_scan n S (nI L)) (fun S' => D2 XSc YSc S S' ∧ CTk c L S') := by
  have hL := hB.1
  unfold E_X9_scan
  apply Ok.letsU
  refine bindW (fun d (s : Int32 × ST) => ∃ i z, s.1 = nI i ∧ d = L - i ∧ i ≤ L ∧ z ≤ 401 ∧ CT c L z s.2 ∧ D2 XSc YSc S s.2 ∧ eor isBl c L i = tkS c L z) L (fun S' => ∃ z, z ≤ 401 ∧ CT c L z S' ∧ D2 XSc YSc S S' ∧ (tkS c L z = L ∨ z = 401)) (by omega) ?_ ?_ ?_
  · refine ⟨0, 0, rfl, rfl, Nat.zero_le _, Nat.zero_le _, ⟨?_, fun j hj => absurd hj (by omega)⟩, (D2.refl _ _ _).up rfl, rfl⟩
    rw [upI_at, if_pos ⟨rfl, rfl⟩]; rfl
  · rintro d ⟨u, S1⟩ ⟨i, z, rfl, rfl, hi, hz, hT, d1, hs⟩
    dsimp only at hT d1 ⊢
    by_cases c1 : L ≤ i
    · refine Ok.ifT (nI_le c1 (by omega)) (Ok.inr ⟨z, hz, hT, d1, Or.inl ?_⟩)
      rw [← hs, eor_end c1]; omega
    refine Ok.ifF (nI_ge (by omega) (by omega)) ?_
    by_cases c2 : z = 401
    · refine Ok.ifT (by rw [hT.1, c2]; decide) (Ok.inr ⟨z, hz, hT, d1, Or.inr c2⟩)
    refine Ok.ifF (by rw [hT.1]; exact nI_nlt (a := 400) (by omega) (by omega)) ?_
    have hB1 := hB.d2 d1 (fun _ => rfl)
    obtain ⟨b1, b2⟩ := hB1.2 i (by omega)
    apply Ok.step (rd_nI (by omega) (by decide))
    rw [b2]
    apply Ok.jnU
    have blank : isBl (c i) = true → Ok (some (.inl ((nI i + (1 : Int32)), S1)) : Option ((Int32 × ST) ⊕ ST)) (Sum.elim (fun s' => ∃ d', d' < L - i ∧ ∃ i z, s'.1 = nI i ∧ d' = L - i ∧ i ≤ L ∧ z ≤ 401 ∧ CT c L z s'.2 ∧ D2 XSc YSc S s'.2 ∧ eor isBl c L i = tkS c L z) (fun S' => ∃ z, z ≤ 401 ∧ CT c L z S' ∧ D2 XSc YSc S S' ∧ (tkS c L z = L ∨ z = 401))) := fun h => by
      refine Ok.inl ⟨L - (i + 1), by omega, i + 1, z, nI_1 _, rfl, by omega, hz, hT, d1, ?_⟩
      rw [← eor_step (by omega) h]; exact hs
    by_cases g1 : c i = 32
    · exact Ok.ifT ((bv_eq (k := 32) b1 (by decide)).mpr g1) (blank (by rw [g1]; rfl))
    refine Ok.ifF (fun y => g1 ((bv_eq (k := 32) b1 (by decide)).mp y)) ?_
    by_cases g2 : c i = 9
    · exact Ok.ifT ((bv_eq (k := 9) b1 (by decide)).mpr g2) (blank (by rw [g2]; rfl))
    refine Ok.ifF (fun y => g2 ((bv_eq (k := 9) b1 (by decide)).mp y)) ?_
    by_cases g3 : c i = 10
    · exact Ok.ifT ((bv_eq (k := 10) b1 (by decide)).mpr g3) (blank (by rw [g3]; rfl))
    refine Ok.ifF (fun y => g3 ((bv_eq (k := 10) b1 (by decide)).mp y)) ?_
    by_cases g4 : c i = 13
    · exact Ok.ifT ((bv_eq (k := 13) b1 (by decide)).mpr g4) (blank (by rw [g4]; rfl))
    refine Ok.ifF (fun y => g4 ((bv_eq (k := 13) b1 (by decide)).mp y)) ?_
    have hb : isBl (c i) = false := by
      simp only [isBl, Bool.or_eq_false_iff, beq_eq_false_iff_ne]
      exact ⟨g1, g2, g3, g4⟩
    rw [eor_stop hb] at hs
    have hK1 : KWc S1 := fun j hj => by rw [d1.1 14 rfl]; exact hK j hj
    obtain ⟨⟨v, S2⟩, e1, e2, d2, p1, p2, p3, p4, p5⟩ := c_scanOne (n := n) hn hB1 hK1 (by omega : i < L) hT.1 (by omega)
    apply Ok.step e1
    dsimp only at e2 d2 p1 p2 p3 p4 p5 ⊢
    subst e2
    have hE := lxE_spec (c := c) (by omega : i < L)
    have e3 : nI (lxE c L i) - 1 = nI (lxE c L i - 1) := by
      have := nI_subC 1 (lxE c L i - 1)
      rw [show 1 + (lxE c L i - 1) = lxE c L i by omega] at this
      exact this
    have e4 : mxI (nI i) (nI (lxE c L i) - 1) + (1 : Int32) = nI (lxE c L i) := by
      rw [e3]
      unfold mxI
      by_cases g : i < lxE c L i - 1
      · rw [if_pos (nI_lt g (by omega)), nI_1, show lxE c L i - 1 + 1 = lxE c L i by omega]
      · rw [if_neg (nI_nlt (by omega) (by omega)), nI_1, show i + 1 = lxE c L i by omega]
    rw [e4]
    have hsi : tkS c L z < L := by omega
    refine Ok.inl ⟨L - lxE c L i, by omega, lxE c L i, z + 1, rfl, rfl, hE.2, by omega, ⟨p1, fun j hj => ?_⟩, d1.trans d2, ?_⟩
    · by_cases g : j = z
      · subst g
        dsimp only
        refine ⟨hsi, ?_, ?_, ?_⟩
        · rw [p2, tkK, if_pos hsi, ← hs]
        · rw [p3, hs]
        · rw [p4, tkV, if_pos hsi, ← hs]
      · dsimp only
        obtain ⟨q1, q2, q3⟩ := p5 j g
        rw [q1, q2, q3]
        exact hT.2 j (by omega)
    · rw [tkS, if_pos hsi, ← hs]
  · rintro S1 ⟨z, hz, hT, d1, h3⟩
    obtain ⟨S2, e1, d2, p1, p2, p3, p4, p5⟩ := c_tput (n := n) (k := 35) (p := L) (v := 0) hT.1 (by omega)
    apply Ok.step (show E_X9_put n S1 (35 : Int32) (nI L) (0 : Int64) = some S2 from e1)
    refine Ok.ret ⟨d1.trans d2, z, hz, p1, fun j hj => ?_, p2, p3, p4, h3⟩
    obtain ⟨q1, q2, q3⟩ := p5 j (by omega)
    rw [q1, q2, q3]
    exact hT.2 j hj
theorem c_kind {j : Nat} (h : CTk c L S) (hj : j ≤ 400) : E_X9_kindAt n S (nI j) = some (nI (tkK c L j)) := by
  obtain ⟨z, h1, h2, h3, h4, h5, h6, h7⟩ := h
  unfold E_X9_kindAt
  rw [if_neg (nI_pos (by omega)), h2]
  by_cases g : z + 1 ≤ j
  · have : tkS c L j = L := tkS_stop (by omega : tkS c L z = L) j (by omega)
    rw [if_pos (nI_le g (by omega)), tkK_end.mpr this]; rfl
  · rw [if_neg (nI_ge (by omega) (by omega)), rd_nI (by omega) (by decide), Option.bind_some]
    by_cases g2 : j = z
    · subst g2
      have : tkS c L j = L := by omega
      rw [h4, tkK_end.mpr this]
    · rw [(h3 j (by omega)).2.1]
theorem c_value {j : Nat} (h : CTk c L S) (hj : j ≤ 400) (hv : ∀ i, i < j → tkK c L i ≠ 35) (hk : tkK c L j ≠ 35) : E_X9_valueAt n S (nI j) = some (nL (tkV c L j)) := by
  obtain ⟨z, h1, h2, h3, h4, h5, h6, h7⟩ := h
  have g : j < z := by
    rcases h7 with h7 | h7
    · rcases Nat.lt_or_ge j z with g | g
      · exact g
      · exact absurd (tkK_end.mpr (tkS_stop h7 j g)) hk
    · omega
  unfold E_X9_valueAt
  simp only [jn]
  rw [if_neg (nI_pos (by omega)), h2, if_neg (nI_ge (by omega) (by omega)), rd_nI (by omega) (by decide), Option.bind_some, (h3 j g).2.2.2]
theorem c_placeT {j : Nat} (h : CTk c L S) (hj : j ≤ 400) (hv : ∀ i, i < j → tkK c L i ≠ 35) : E_X9_placeAt n S (nI j) = some (nI (tkS c L j)) := by
  obtain ⟨z, h1, h2, h3, h4, h5, h6, h7⟩ := h
  have g : j ≤ z := by
    rcases h7 with h7 | h7
    · rcases Nat.lt_or_ge z j with g | g
      · exact absurd (tkK_end.mpr h7) (hv z g)
      · exact g
    · omega
  unfold E_X9_placeAt
  rw [if_neg (nI_pos (by omega)), h2, if_neg (nI_ge (by omega) (by omega)), rd_nI (by omega) (by decide), Option.bind_some]
  by_cases g2 : j = z
  · subst g2
    have : tkS c L j = L := by omega
    rw [h5, this]
  · rw [(h3 j (by omega)).2.2.1]
end CLX
