/-! ===== the class cuts a text into tokens ===== -/
/-- all cells but some are as they were; longs, too -/
def D2 (X : Nat → Nat → Bool) (Y : Nat → Bool) (S S' : ST) : Prop := (∀ a, Y a = false → S'.2 a = S.2 a) ∧ ∀ a j, X a j = false → S'.1 a j = S.1 a j
theorem D2.refl (X : Nat → Nat → Bool) (Y : Nat → Bool) (S : ST) : D2 X Y S S := ⟨fun _ _ => rfl, fun _ _ _ => rfl⟩
theorem D2.trans {X : Nat → Nat → Bool} {Y : Nat → Bool} {S S' S'' : ST} (h : D2 X Y S S') (h2 : D2 X Y S' S'') : D2 X Y S S'' := ⟨fun a ha => (h2.1 a ha).trans (h.1 a ha), fun a j hx => (h2.2 a j hx).trans (h.2 a j hx)⟩
theorem D2.mono {X X' : Nat → Nat → Bool} {Y Y' : Nat → Bool} {S S' : ST} (h : D2 X Y S S') (h1 : ∀ a j, X' a j = false → X a j = false) (h2 : ∀ a, Y' a = false → Y a = false) : D2 X' Y' S S' := ⟨fun a ha => h.1 a (h2 a ha), fun a j ha => h.2 a j (h1 a j ha)⟩
theorem D2.up {X : Nat → Nat → Bool} {Y : Nat → Bool} {S S' : ST} {t j : Nat} {v : Int32} (h : D2 X Y S S') (hx : X t j = true) : D2 X Y S (upI S' t j v) := ⟨h.1, fun a i ha => by
  rw [upI_at]
  by_cases c : a = t ∧ i = j
  · rw [c.1, c.2, hx] at ha; cases ha
  · rw [if_neg c]; exact h.2 a i ha⟩
theorem D2.upl {X : Nat → Nat → Bool} {Y : Nat → Bool} {S S' : ST} {t j : Nat} {v : Int64} (h : D2 X Y S S') (hx : Y t = true) : D2 X Y S (upL S' t j v) := ⟨fun a ha => by
  by_cases c : a = t
  · rw [c, hx] at ha; cases ha
  · rw [show (upL S' t j v).2 a = S'.2 a from upf_ne _ _ c]; exact h.1 a ha, h.2⟩
theorem D2.of {X : Nat → Nat → Bool} {Y : Nat → Bool} {S S' : ST} (h : Df X S S') : D2 X Y S S' := ⟨fun a _ => congrFun h.1 a, h.2⟩
theorem upL_at {S : ST} {t j a i : Nat} {v : Int64} : (upL S t j v).2 a i = if a = t ∧ i = j then v else S.2 a i := by
  unfold upL
  dsimp only
  by_cases c : a = t
  · subst c
    rw [upf_same]
    by_cases c2 : i = j
    · subst c2; rw [upf_same, if_pos ⟨rfl, rfl⟩]
    · rw [upf_ne _ _ c2, if_neg (fun z => c2 z.2)]
  · rw [upf_ne _ _ c, if_neg (fun z => c z.1)]
def XSc (a j : Nat) : Bool := a == 11 || (a == 12 || (a == 10 && j == 4))
def YSc (a : Nat) : Bool := a == 13
/-- the bytes that are read -/
def TB (c : Nat → Nat) (L a : Nat) (S : ST) : Prop := L ≤ 2000 ∧ ∀ k, k < L → c k < 256 ∧ S.1 a k = bv (c k)
theorem TB.d2 {c : Nat → Nat} {L a : Nat} {X : Nat → Nat → Bool} {Y : Nat → Bool} {S S' : ST} (h : TB c L a S) (d : D2 X Y S S') (hx : ∀ j, X a j = false) : TB c L a S' := ⟨h.1, fun k hk => ⟨(h.2 k hk).1, by rw [d.2 _ _ (hx _)]; exact (h.2 k hk).2⟩⟩
/-- the words, as the class has them -/
def KWc (S : ST) : Prop := ∀ j, j < 20 → S.2 14 j = nL (kwN j)
/-- z tokens are there -/
def CT (c : Nat → Nat) (L z : Nat) (S : ST) : Prop := S.1 10 4 = nI z ∧ ∀ j, j < z → tkS c L j < L ∧ S.1 11 j = nI (tkK c L j) ∧ S.1 12 j = nI (tkS c L j) ∧ S.2 13 j = nL (tkV c L j)
/-- the text is cut -/
def CTk (c : Nat → Nat) (L : Nat) (S : ST) : Prop := ∃ z, z ≤ 401 ∧ S.1 10 4 = nI (z + 1) ∧ (∀ j, j < z → tkS c L j < L ∧ S.1 11 j = nI (tkK c L j) ∧ S.1 12 j = nI (tkS c L j) ∧ S.2 13 j = nL (tkV c L j)) ∧ S.1 11 z = nI 35 ∧ S.1 12 z = nI L ∧ S.2 13 z = nL 0 ∧ (tkS c L z = L ∨ z = 401)
theorem CTk.d2 {c : Nat → Nat} {L : Nat} {X : Nat → Nat → Bool} {Y : Nat → Bool} {S S' : ST} (h : CTk c L S) (d : D2 X Y S S') (hx : ∀ a j, XSc a j = true → X a j = false) (hy : Y 13 = false) : CTk c L S' := by
  obtain ⟨z, h1, h2, h3, h4, h5, h6, h7⟩ := h
  have e11 : ∀ j, S'.1 11 j = S.1 11 j := fun j => d.2 _ _ (hx _ _ rfl)
  have e12 : ∀ j, S'.1 12 j = S.1 12 j := fun j => d.2 _ _ (hx _ _ rfl)
  have e13 : ∀ j, S'.2 13 j = S.2 13 j := fun j => by rw [d.1 _ hy]
  exact ⟨z, h1, by rw [d.2 _ _ (hx _ _ rfl)]; exact h2, fun j hj => by rw [e11, e12, e13]; exact h3 j hj, by rw [e11]; exact h4, by rw [e12]; exact h5, by rw [e13]; exact h6, h7⟩
section CLX
variable {n L : Nat} {c : Nat → Nat} {S : ST}
theorem c_eor {lo hi i : Nat} {P : Nat → Bool} (hP : ∀ x, P x = (decide (lo ≤ x) && decide (x ≤ hi))) (h1 : lo < 128) (h2 : hi < 128) (hn : 30000 ≤ n) (hB : TB c L 9 S) (hi2 : i ≤ L) : E_X9_endOfRun n S (nI L) (nI i) (nI lo) (nI hi) = some (nI (eor P c L i)) := by
  have hL := hB.1
  obtain ⟨s1, s2, s3, s4⟩ := eor_spec (P := P) (c := c) hi2
  generalize eor P c L i = e at *
  unfold E_X9_endOfRun
  apply Ok.e
  refine bindP (fun j => nI j) (nI e) i e s1 (by omega) rfl ?_ ?_ (Ok.ret rfl)
  · intro j hj1 hj2
    have h3 := s3 j hj1 hj2
    rw [hP] at h3
    simp only [Bool.and_eq_true, decide_eq_true_eq] at h3
    obtain ⟨b1, b2⟩ := hB.2 j (by omega)
    refine Ok.ifF (nI_ge (by omega) (by omega)) ?_
    apply Ok.step (rd_nI (by omega) (by decide))
    rw [b2]
    refine Ok.ifF (fun z => by have := (bv_lt b1 h1).mp z; omega) ?_
    apply Ok.step (rd_nI (by omega) (by decide))
    rw [b2]
    refine Ok.ifF (fun z => by have := (bv_gt b1 h2).mp z; omega) ?_
    exact Ok.ret (by rw [nI_1])
  · by_cases c0 : L ≤ e
    · exact Ok.ifT (nI_le (by omega) (by omega)) (Ok.ret rfl)
    have h3 := s4 (by omega)
    rw [hP] at h3
    obtain ⟨b1, b2⟩ := hB.2 e (by omega)
    refine Ok.ifF (nI_ge (by omega) (by omega)) ?_
    apply Ok.step (rd_nI (by omega) (by decide))
    rw [b2]
    refine Ok.ifC (fun _ => Ok.ret rfl) (fun g1 => ?_)
    apply Ok.step (rd_nI (by omega) (by decide))
    rw [b2]
    refine Ok.ifT ?_ (Ok.ret rfl)
    rw [bv_gt b1 h2]
    rw [bv_lt b1 h1] at g1
    simp only [Bool.and_eq_false_iff, decide_eq_false_iff_not] at h3
    omega
theorem c_tput {z : Nat} {k p : Nat} {v : Nat} (e : S.1 10 4 = nI z) (hz : z < 402) : Ok (E_X9_put n S (nI k) (nI p) (nL v)) (fun S' => D2 XSc YSc S S' ∧ S'.1 10 4 = nI (z + 1) ∧ S'.1 11 z = nI k ∧ S'.1 12 z = nI p ∧ S'.2 13 z = nL v ∧ ∀ j, j ≠ z → S'.1 11 j = S.1 11 j ∧ S'.1 12 j = S.1 12 j ∧ S'.2 13 j = S.2 13 j) := by
  unfold E_X9_put
  refine Ok.ifF (by rw [e]; exact nI_ge (a := z) (b := 402) (by omega) (by decide)) ?_
  rw [e]
  apply Ok.step (wr_nI (by omega) (by decide))
  rw [upI_at, if_neg (by omega), e]
  apply Ok.step (wr_nI (by omega) (by decide))
  rw [upI_at, if_neg (by omega), upI_at, if_neg (by omega), e]
  apply Ok.step (wrl_nI (by omega) (by decide))
  apply Ok.letsU
  refine Ok.ret ⟨((((D2.refl _ _ _).up rfl).up rfl).upl rfl).up rfl, ?_, ?_, ?_, ?_, fun j hj => ⟨?_, ?_, ?_⟩⟩
  · rw [upI_at, if_pos ⟨rfl, rfl⟩, upL_1, upI_at, if_neg (by omega), upI_at, if_neg (by omega), e, nI_1]
  · rw [upI_at, if_neg (by omega), upL_1, upI_at, if_neg (by omega), upI_at, if_pos ⟨rfl, rfl⟩]
  · rw [upI_at, if_neg (by omega), upL_1, upI_at, if_pos ⟨rfl, rfl⟩]
  · show (upL _ 13 z (nL v)).2 13 z = _
    rw [upL_at, if_pos ⟨rfl, rfl⟩]
  · rw [upI_at, if_neg (by omega), upL_1, upI_at, if_neg (by omega), upI_at, if_neg (by omega)]
  · rw [upI_at, if_neg (by omega), upL_1, upI_at, if_neg (by omega), upI_at, if_neg (by omega)]
  · show (upL _ 13 z (nL v)).2 13 j = _
    rw [upL_at, if_neg (by omega)]; rfl
/-- the token at a place is put -/
def Put1 (c : Nat → Nat) (L i z : Nat) (S S' : ST) : Prop := D2 XSc YSc S S' ∧ S'.1 10 4 = nI (z + 1) ∧ S'.1 11 z = nI (lxK c L i) ∧ S'.1 12 z = nI i ∧ S'.2 13 z = nL (lxV c L i) ∧ ∀ j, j ≠ z → S'.1 11 j = S.1 11 j ∧ S'.1 12 j = S.1 12 j ∧ S'.2 13 j = S.2 13 j
theorem c_scanWord {i z : Nat} (hn : 30000 ≤ n) (hB : TB c L 9 S) (hK : KWc S) (hi : i < L) (e : S.1 10 4 = nI z) (hz : z < 402) (hl : isLt (c i) = true) : Ok (E_X9_scanWord n S (nI L) (nI i)) (fun r => r.1 = nI (lxE c L i) ∧ Put1 c L i z S r.2) := by
  have hL := hB.1
  obtain ⟨s1, s2, s3, s4⟩ := eor_spec (P := isLt) (c := c) (L := L) (i := i) (by omega)
  have e0 := c_eor (P := isLt) (lo := 97) (hi := 122) (n := n) (i := i) (fun x => rfl) (by decide) (by decide) hn hB (by omega)
  have eE : lxE c L i = eor isLt c L i := by unfold lxE; rw [if_pos hl]
  have eK : lxK c L i = if eor isLt c L i - i ≤ 8 then kw (wd c i (eor isLt c L i - i)) else 34 := by unfold lxK; rw [if_pos hl]
  have eV : lxV c L i = if eor isLt c L i - i ≤ 8 then wd c i (eor isLt c L i - i) else 0 := by unfold lxV; rw [if_pos hl]
  unfold Put1
  rw [eE, eK, eV]
  generalize eor isLt c L i = e1 at *
  unfold E_X9_scanWord
  apply Ok.step e0
  have es : nI e1 - nI i = nI (e1 - i) := by
    rw [show e1 = (e1 - i) + i by omega, ← nI_add, Int32.add_sub_cancel, Nat.add_sub_cancel]
  rw [es]
  by_cases c8 : e1 - i ≤ 8
  · rw [if_pos c8, if_pos c8]
    refine Ok.ifT (nI_le (b := 8) c8 (by decide)) ?_
    have hw : ∀ j, j < e1 - i → isLt (c (i + j)) = true := fun j hj => s3 _ (by omega) (by omega)
    refine bindP (fun k => (nL (wd c i k), nI (i + k))) (nL (wd c i (e1 - i))) 0 (e1 - i) (Nat.zero_le _) (by omega) rfl ?_ ?_ ?_
    · intro k _ hk
      obtain ⟨b1, b2⟩ := hB.2 (i + k) (by omega)
      have hl2 := hw k hk
      have hl3 := hl2
      simp only [isLt, Bool.and_eq_true, decide_eq_true_eq] at hl3
      refine Ok.ifF (nI_ge (by omega) (by omega)) ?_
      apply Ok.step (rd_nI (by omega) (by decide))
      rw [b2, bv_pos (by omega)]
      apply Ok.step (x := nL (wd c i (k + 1))) (by
        unfold E_X9_withLetter
        dsimp only
        rw [nL_letter hl2]; rfl)
      exact Ok.ret (by rw [nI_1, Nat.add_assoc])
    · exact Ok.ifT (nI_le (by omega) (by omega)) (Ok.ret rfl)
    have hv : wd c i (e1 - i) < 2 ^ 63 := by
      have h1 := wd_lt _ hw
      have h2 : 27 ^ (e1 - i) ≤ 27 ^ 8 := Nat.pow_le_pow_right (by decide) c8
      omega
    refine bindP (fun k => (nI (kwL (wd c i (e1 - i)) k), nI k)) (nI (kw (wd c i (e1 - i)))) 0 20 (Nat.zero_le _) (by omega) rfl ?_ ?_ ?_
    · intro k _ hk
      refine Ok.ifF (nI_ge (b := 20) (by omega) (by decide)) ?_
      apply Ok.step (rd_nI (by omega) (by decide))
      apply Ok.jnU
      rw [hK k hk]
      have hk2 : kwN k < 2 ^ 63 := by
        have : ∀ k : Fin 20, kwN k.val < 2 ^ 63 := by decide
        exact this ⟨k, hk⟩
      by_cases g : kwN k = wd c i (e1 - i)
      · refine Ok.ifT ((lg_cmp_eq _ _).mpr (by rw [g])) (Ok.ret ?_)
        rw [nI_1]
        dsimp only
        rw [kwL, if_pos g]
      · refine Ok.ifF (fun y => g ((nL_inj hk2 hv).mp ((lg_cmp_eq _ _).mp y))) (Ok.ret ?_)
        rw [nI_1]
        dsimp only
        rw [kwL, if_neg g]
    · exact Ok.ifT (nI_le (a := 20) (by omega) (by decide)) (Ok.ret rfl)
    obtain ⟨S1, f1, f2⟩ := c_tput (n := n) (k := kw (wd c i (e1 - i))) (p := i) (v := wd c i (e1 - i)) e hz
    apply Ok.step f1
    exact Ok.ret ⟨rfl, f2⟩
  · rw [if_neg c8, if_neg c8]
    refine Ok.ifF (nI_ge (a := 8) (by omega) (by omega)) ?_
    obtain ⟨S1, f1, f2⟩ := c_tput (n := n) (k := 34) (p := i) (v := 0) e hz
    apply Ok.step (show E_X9_put n S (34 : Int32) (nI i) (0 : Int64) = some S1 from f1)
    exact Ok.ret ⟨rfl, f2⟩
theorem c_scanInt {i z : Nat} (hn : 30000 ≤ n) (hB : TB c L 9 S) (hi : i < L) (e : S.1 10 4 = nI z) (hz : z < 402) (hl : isLt (c i) = false) (hd : isDg (c i) = true) : Ok (E_X9_scanInt n S (nI L) (nI i)) (fun r => r.1 = nI (lxE c L i) ∧ Put1 c L i z S r.2) := by
  have hL := hB.1
  obtain ⟨s1, s2, s3, s4⟩ := eor_spec (P := isDg) (c := c) (L := L) (i := i) (by omega)
  have e0 := c_eor (P := isDg) (lo := 48) (hi := 57) (n := n) (i := i) (fun x => rfl) (by decide) (by decide) hn hB (by omega)
  have hl' : ¬ isLt (c i) = true := by rw [hl]; decide
  have eE : lxE c L i = eor isDg c L i := by unfold lxE; rw [if_neg hl', if_pos hd]
  have eK : lxK c L i = if eor isDg c L i - i ≤ 4 then 21 else 34 := by unfold lxK; rw [if_neg hl', if_pos hd]
  have eV : lxV c L i = if eor isDg c L i - i ≤ 4 then dg c i (eor isDg c L i - i) else 0 := by unfold lxV; rw [if_neg hl', if_pos hd]
  unfold Put1
  rw [eE, eK, eV]
  generalize eor isDg c L i = e1 at *
  unfold E_X9_scanInt
  apply Ok.step e0
  have es : nI e1 - nI i = nI (e1 - i) := by
    rw [show e1 = (e1 - i) + i by omega, ← nI_add, Int32.add_sub_cancel, Nat.add_sub_cancel]
  rw [es]
  by_cases c8 : e1 - i ≤ 4
  · rw [if_pos c8, if_pos c8]
    refine Ok.ifT (nI_le (b := 4) c8 (by decide)) ?_
    have hw : ∀ j, j < e1 - i → isDg (c (i + j)) = true := fun j hj => s3 _ (by omega) (by omega)
    refine bindP (fun k => (nI (dg c i k), nI (i + k))) (nI (dg c i (e1 - i))) 0 (e1 - i) (Nat.zero_le _) (by omega) rfl ?_ ?_ ?_
    · intro k _ hk
      obtain ⟨b1, b2⟩ := hB.2 (i + k) (by omega)
      have hl3 := hw k hk
      simp only [isDg, Bool.and_eq_true, decide_eq_true_eq] at hl3
      refine Ok.ifF (nI_ge (by omega) (by omega)) ?_
      apply Ok.step (rd_nI (by omega) (by decide))
      rw [b2, bv_pos (by omega)]
      apply Ok.letsU
      refine Ok.ret ?_
      dsimp only
      rw [nI_1, Nat.add_assoc, dg, show (10 : Int32) = nI 10 from rfl, show (48 : Int32) = nI 48 from rfl, nI_mulN, Nat.mul_comm 10, ← nI_add (a := dg c i k * 10) (b := c (i + k) - 48)]
      congr 3
      have := nI_subC 48 (c (i + k) - 48)
      rw [show 48 + (c (i + k) - 48) = c (i + k) by omega] at this
      rw [this]
    · exact Ok.ifT (nI_le (by omega) (by omega)) (Ok.ret rfl)
    have hv : dg c i (e1 - i) < 2 ^ 31 := by
      have h1 := dg_lt _ hw
      have h2 : 10 ^ (e1 - i) ≤ 10 ^ 4 := Nat.pow_le_pow_right (by decide) c8
      omega
    obtain ⟨S1, f1, f2⟩ := c_tput (n := n) (k := 21) (p := i) (v := dg c i (e1 - i)) e hz
    rw [nL_int hv]
    apply Ok.step (show E_X9_put n S (21 : Int32) (nI i) (nL (dg c i (e1 - i))) = some S1 from f1)
    exact Ok.ret ⟨rfl, f2⟩
  · rw [if_neg c8, if_neg c8]
    refine Ok.ifF (nI_ge (a := 4) (by omega) (by omega)) ?_
    obtain ⟨S1, f1, f2⟩ := c_tput (n := n) (k := 34) (p := i) (v := 0) e hz
    apply Ok.step (show E_X9_put n S (34 : Int32) (nI i) (0 : Int64) = some S1 from f1)
    exact Ok.ret ⟨rfl, f2⟩
end CLX
