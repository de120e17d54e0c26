/-! ===== what holds all along a condition ===== -/
def nop : List Nat → Nat
  | [] => 0
  | k :: r => if k = 32 then nop r else nop r + 1
theorem nop_len (s : List Nat) : nop s + opn s = s.length := by
  induction s with
  | nil => rfl
  | cons k r ih =>
    rw [nop, opn, List.length_cons]
    split <;> omega
theorem nop_le {s : List Nat} (h : SK s) : nop s ≤ 2 * opn s + tpw s := by
  induction s with
  | nil => exact Nat.le_refl _
  | cons k r ih =>
    have h1 := ih h.1
    have h2 := tpw_le h.1
    rw [nop, opn, tpw_cons]
    by_cases e : k = 32
    · rw [if_pos e, if_pos e, if_pos e]; omega
    · rw [if_neg e, if_neg e, if_neg e]
      rcases h.2 with z | z
      · omega
      · omega
theorem nop_app (t : Nat) (s : List Nat) : (∀ k ∈ relO t s, k ≠ 32) → nop s = (relO t s).length + nop (relR t s) := by
  induction s with
  | nil => intro _; rfl
  | cons k r ih =>
    intro h
    rw [relO] at h ⊢
    rw [relR]
    split
    · rename_i c
      rw [if_pos c] at h
      have e : k ≠ 32 := h k (List.mem_cons_self ..)
      rw [nop, if_neg e, ih (fun j hj => h j (List.mem_cons_of_mem _ hj)), List.length_cons]
      omega
    · exact (Nat.zero_add _).symm
def lfN (lf : Option (Nat × CD)) : Nat := match lf with
  | none => 0
  | some x => x.2.length + 1
def totQ (q : CQ) : Nat := q.E.length + lfN q.lf + q.o.length + q.s.length + q.ng + (if q.pA = true then 1 else 0) + (if q.pO = true then 1 else 0)
def wN (q : CQ) : Nat := 3 * q.ls.length + (if q.lf = none then 0 else 2) + (if q.b = true then 1 else 0)
def cdt : List LT → Nat
  | [] => 0
  | x :: r => x.2.2.2.1.length + x.2.2.2.2.length + cdt r
theorem cdt_app (a b : List LT) : cdt (a ++ b) = cdt a + cdt b := by
  induction a with
  | nil => exact (Nat.zero_add _).symm
  | cons x r ih => rw [List.cons_append, cdt, cdt, ih]; omega
def ltW (x : LT) : Prop := x.2.2.1 ≤ 3 ∧ wfC 16 x.2.2.2.1 0 1 ∧ wfC 16 x.2.2.2.2 0 1
def CQI (K : Nat → Nat) (b0 : Nat) (q : CQ) : Prop := (q.y.1 ≤ 2 ∧ q.y.2 ≤ 400 ∧ ∀ i, i < q.y.2 → K i ≠ 35) ∧ SK q.s ∧ opn q.s ≤ 6 ∧ totQ q + b0 ≤ q.y.2 + q.y.1 ∧ wN q + b0 ≤ q.y.2 + q.y.1 ∧ cdt q.ls ≤ q.E.length
  ∧ wfC 16 q.o 0 (nop q.s + (if q.b = true then 1 else 0)) ∧ (∀ how l, q.lf = some (how, l) → how ≤ 3 ∧ wfC 16 l 0 1) ∧ (∀ x ∈ q.ls, ltW x) ∧ (q.lf ≠ none → q.g = true) ∧ (q.b = true → q.g = true) ∧ (q.s ≠ [] → q.g = true)
def yW (K : Nat → Nat) (y : Nat × Nat) : Prop := y.1 ≤ 2 ∧ y.2 ≤ 400 ∧ ∀ i, i < y.2 → K i ≠ 35
theorem totQ_mk (y : Nat × Nat) (b g : Bool) (ng : Nat) (lf : Option (Nat × CD)) (o : CD) (s : List Nat) (orr : Bool) (ls : List LT) (E : CD) (pO pA : Bool) : totQ (mkQ y b g ng lf o s orr ls E pO pA) = E.length + lfN lf + o.length + s.length + ng + (if pA = true then 1 else 0) + (if pO = true then 1 else 0) := rfl
theorem totQ_q (q : CQ) : totQ q = q.E.length + lfN q.lf + q.o.length + q.s.length + q.ng + (if q.pA = true then 1 else 0) + (if q.pO = true then 1 else 0) := rfl
theorem wN_mk (y : Nat × Nat) (b g : Bool) (ng : Nat) (lf : Option (Nat × CD)) (o : CD) (s : List Nat) (orr : Bool) (ls : List LT) (E : CD) (pO pA : Bool) : wN (mkQ y b g ng lf o s orr ls E pO pA) = 3 * ls.length + (if lf = none then 0 else 2) + (if b = true then 1 else 0) := rfl
theorem wN_q (q : CQ) : wN q = 3 * q.ls.length + (if q.lf = none then 0 else 2) + (if q.b = true then 1 else 0) := rfl
theorem lfN_s (x : Nat × CD) : lfN (some x) = x.2.length + 1 := rfl
theorem lfN_n : lfN none = 0 := rfl
theorem CQI.init {K : Nat → Nat} {y : Nat × Nat} (hy : yW K y) : CQI K y.2 (cInit y) := by
  refine ⟨hy, trivial, Nat.zero_le _, ?_, ?_, Nat.le_refl _, rfl, ?_, ?_, ?_, ?_, fun z => absurd rfl z⟩
  · show totQ (cInit y) + y.2 ≤ y.2 + y.1
    have : totQ (cInit y) = 0 := rfl
    omega
  · show wN (cInit y) + y.2 ≤ y.2 + y.1
    have : wN (cInit y) = 0 := rfl
    omega
  · intro how l h; cases h
  · intro x hx; cases hx
  · intro h; exact absurd rfl h
  · intro h; cases h
theorem tk_f {K : Nat → Nat} {k : Nat} {y : Nat × Nat} (h : y.1 ≠ 0) : tk K k y = y := if_neg h
theorem tk_g {K : Nat → Nat} {k : Nat} {y : Nat × Nat} (h : y.1 = 0) (hk : K y.2 = k) : tk K k y = if y.2 < 400 then (0, y.2 + 1) else (2, y.2) := by
  unfold tk
  rw [if_pos h, if_pos hk]
theorem tk_n {K : Nat → Nat} {k : Nat} {y : Nat × Nat} (h : y.1 = 0) (hk : K y.2 ≠ k) : tk K k y = (1, y.2) := by
  unfold tk
  rw [if_pos h, if_neg hk]
/-- how far it is to the end -/
def cms (y : Nat × Nat) : Nat := if y.1 = 0 then 401 - y.2 else 0
theorem tk_w {K : Nat → Nat} {k : Nat} {y : Nat × Nat} (h : yW K y) (hk : k ≠ 35) : yW K (tk K k y) := by
  obtain ⟨h1, h2, h3⟩ := h
  by_cases c : y.1 = 0
  · by_cases c2 : K y.2 = k
    · rw [tk_g c c2]
      split
      · rename_i c3
        refine ⟨Nat.zero_le _, c3, fun i hi => ?_⟩
        dsimp only at hi
        by_cases e : i = y.2
        · rw [e, c2]; exact hk
        · exact h3 i (by omega)
      · exact ⟨Nat.le_refl _, h2, h3⟩
    · rw [tk_n c c2]
      exact ⟨(by decide : (1 : Nat) ≤ 2), h2, h3⟩
  · rw [tk_f c]
    exact ⟨h1, h2, h3⟩
theorem tk_s {K : Nat → Nat} {y : Nat × Nat} (h : yW K y) (h0 : y.1 = 0) (hk : K y.2 ≠ 35) : yW K (tk K (K y.2) y) ∧ y.2 + y.1 + 1 ≤ (tk K (K y.2) y).2 + (tk K (K y.2) y).1 ∧ cms (tk K (K y.2) y) < cms y := by
  refine ⟨tk_w h hk, ?_⟩
  obtain ⟨h1, h2, h3⟩ := h
  rw [tk_g h0 rfl]
  unfold cms
  rw [if_pos h0]
  split
  · dsimp only
    rw [if_pos rfl]
    omega
  · dsimp only
    rw [if_neg (by decide)]
    omega
theorem cms_f {y : Nat × Nat} {f : Nat} (h0 : y.1 = 0) (h2 : y.2 ≤ 400) (hf : f ≠ 0) : cms (f, y.2) < cms y := by
  unfold cms
  dsimp only
  rw [if_pos h0, if_neg hf]
  omega
theorem wfC_end {s : List Nat} {o : CD} (hs : SK s) (h0 : opn s = 0) (h : wfC 16 o 0 (nop s + 1)) : wfC 16 (o ++ opsC (relO 1 s)) 0 1 := by
  have h1 := (rel_all hs h0 (t := 1) (by decide)).1
  rw [h1]
  refine wfC_app h ?_
  have h2 := nop_len s
  have h3 := wfC_ops (m := 16) (s := s) (d := 0) (fun k hk => by rw [← h1] at hk; exact relO_ops (by decide) hs k hk)
  rw [show nop s + 1 = 0 + 1 + s.length by omega]
  exact h3
theorem opsC_len (s : List Nat) : (opsC s).length = s.length := by unfold opsC; rw [List.length_map]
theorem litS_len (how ng : Nat) (l r : CD) : (litS how ng l r).length = l.length + r.length + 1 + ng := by
  unfold litS
  rw [List.length_append, List.length_append, List.length_cons, List.length_replicate]
  omega
theorem andS_len (p : Bool) : (andS p).length = if p = true then 1 else 0 := by cases p <;> rfl
theorem orS_len (p : Bool) : (orS p).length = if p = true then 1 else 0 := by cases p <;> rfl
theorem CQI.fault {K : Nat → Nat} {b0 f : Nat} {q : CQ} (h : CQI K b0 q) (h0 : q.y.1 = 0) (hf : f ≤ 2) : CQI K b0 (mkQ (f, q.y.2) q.b q.g q.ng q.lf q.o q.s q.orr q.ls q.E q.pO q.pA) := by
  obtain ⟨⟨h1, h2, h3⟩, h4, h5, h6, h7, h8⟩ := h
  refine ⟨⟨hf, h2, h3⟩, h4, h5, ?_, ?_, h8⟩
  · show totQ q + b0 ≤ q.y.2 + f
    omega
  · show wN q + b0 ≤ q.y.2 + f
    omega
theorem CQI.st {K V : Nat → Nat} {b0 : Nat} {q : CQ} (h : CQI K b0 q) (hd : ¬ cdn K q) : CQI K b0 (cst K V q) ∧ cms (cst K V q).y < cms q.y := by
  have h0 : q.y.1 = 0 := by
    rcases Nat.eq_zero_or_pos q.y.1 with z | z
    · exact z
    · exact absurd (Or.inl (by omega)) hd
  have hy : q.y.2 ≤ 400 := h.1.2.1
  have fl : ∀ f, f ≤ 2 → f ≠ 0 → CQI K b0 (mkQ (f, q.y.2) q.b q.g q.ng q.lf q.o q.s q.orr q.ls q.E q.pO q.pA) ∧ cms (mkQ (f, q.y.2) q.b q.g q.ng q.lf q.o q.s q.orr q.ls q.E q.pO q.pA).y < cms q.y := fun f h1 h2 => ⟨h.fault h0 h1, cms_f h0 hy h2⟩
  have tks : K q.y.2 ≠ 35 → _ := fun hk => tk_s h.1 h0 hk
  obtain ⟨hY, h4, h5, h6, h7, h8, h9, h10, h11, h12, h13, h14⟩ := h
  have hl := nop_len q.s
  have hn := nop_le h4
  have ht := tpw_le h4
  unfold cst
  by_cases hb : q.b = false
  · rw [if_pos hb]
    by_cases c1 : K q.y.2 = 15 ∧ q.g = false
    · rw [if_pos c1]
      obtain ⟨t1, t2, t3⟩ := tks (by omega)
      refine ⟨⟨t1, h4, h5, ?_, ?_, h8, h9, h10, h11, h12, h13, h14⟩, t3⟩
      · have e : totQ (mkQ (tk K (K q.y.2) q.y) q.b q.g (q.ng + 1) q.lf q.o q.s q.orr q.ls q.E q.pO q.pA) = totQ q + 1 := by rw [totQ_mk, totQ_q]; omega
        rw [e]; show _ ≤ (tk K (K q.y.2) q.y).2 + (tk K (K q.y.2) q.y).1; omega
      · show wN q + b0 ≤ (tk K (K q.y.2) q.y).2 + (tk K (K q.y.2) q.y).1; omega
    rw [if_neg c1]
    by_cases c2 : K q.y.2 = 32
    · rw [if_pos c2]
      by_cases c3 : opn q.s < 6
      · rw [if_pos c3]
        obtain ⟨t1, t2, t3⟩ := tks (by omega)
        refine ⟨⟨t1, ⟨h4, Or.inl rfl⟩, ?_, ?_, ?_, h8, ?_, h10, h11, fun _ => rfl, fun _ => rfl, fun _ => rfl⟩, t3⟩
        · show opn (32 :: q.s) ≤ 6
          rw [opn, if_pos rfl]; omega
        · have e : totQ (mkQ (tk K (K q.y.2) q.y) q.b true q.ng q.lf q.o (32 :: q.s) q.orr q.ls q.E q.pO q.pA) = totQ q + 1 := by rw [totQ_mk, totQ_q]; rw [List.length_cons]; omega
          rw [e]; show _ ≤ (tk K (K q.y.2) q.y).2 + (tk K (K q.y.2) q.y).1; omega
        · show wN q + b0 ≤ (tk K (K q.y.2) q.y).2 + (tk K (K q.y.2) q.y).1; omega
        · show wfC 16 q.o 0 (nop (32 :: q.s) + _)
          rw [nop, if_pos rfl]; exact h9
      · rw [if_neg c3]; exact fl 2 (by decide) (by decide)
    rw [if_neg c2]
    by_cases c3 : K q.y.2 = 21 ∨ (16 ≤ K q.y.2 ∧ K q.y.2 ≤ 19)
    · rw [if_pos c3]
      obtain ⟨t1, t2, t3⟩ := tks (by omega)
      refine ⟨⟨t1, h4, h5, ?_, ?_, h8, ?_, h10, h11, fun _ => rfl, fun _ => rfl, fun _ => rfl⟩, t3⟩
      · have e : totQ (mkQ (tk K (K q.y.2) q.y) true true q.ng q.lf (q.o ++ [cod V (K q.y.2) q.y.2]) q.s q.orr q.ls q.E q.pO q.pA) = totQ q + 1 := by
          rw [totQ_mk, totQ_q]; rw [List.length_append]; show _ = _; simp only [List.length_cons, List.length_nil]; omega
        rw [e]; show _ ≤ (tk K (K q.y.2) q.y).2 + (tk K (K q.y.2) q.y).1; omega
      · have e : wN (mkQ (tk K (K q.y.2) q.y) true true q.ng q.lf (q.o ++ [cod V (K q.y.2) q.y.2]) q.s q.orr q.ls q.E q.pO q.pA) = wN q + 1 := by
          rw [wN_mk, wN_q, hb, if_neg (show ¬ false = true by decide), if_pos rfl]
        rw [e]; show _ ≤ (tk K (K q.y.2) q.y).2 + (tk K (K q.y.2) q.y).1; omega
      · rw [hb, if_neg (by decide)] at h9
        refine wfC_app h9 ?_
        show wfC 16 [(K q.y.2, _)] (nop q.s + 0) (nop q.s + 1)
        unfold wfC
        rw [if_pos (by omega)]
        exact ⟨by omega, rfl⟩
    · rw [if_neg c3]; exact fl 1 (by decide) (by decide)
  rw [if_neg hb]
  have hb' : q.b = true := by simpa using hb
  rw [hb', if_pos rfl] at h9
  have hw : wN q = 3 * q.ls.length + (if q.lf = none then 0 else 2) + 1 := by unfold wN; rw [hb', if_pos rfl]
  by_cases c1 : K q.y.2 = 33 ∧ 0 < opn q.s
  · rw [if_pos c1]
    obtain ⟨t1, t2, t3⟩ := tks (by omega)
    obtain ⟨r, e1, e2, e3⟩ := rel_open h4 c1.2
    have e4 := rel_len 1 q.s
    have e5 := nop_app 1 q.s (relO_nop (by decide) q.s)
    rw [e1] at e4 e5
    rw [e1]
    show CQI K b0 (mkQ (tk K (K q.y.2) q.y) q.b q.g q.ng q.lf (q.o ++ opsC (relO 1 q.s)) r q.orr q.ls q.E q.pO q.pA) ∧ _
    rw [nop, if_pos rfl] at e5
    rw [List.length_cons] at e4
    refine ⟨⟨t1, e2, ?_, ?_, ?_, h8, ?_, h10, h11, h12, h13, fun _ => h13 hb'⟩, t3⟩
    · show opn r ≤ 6; omega
    · have e : totQ (mkQ (tk K (K q.y.2) q.y) q.b q.g q.ng q.lf (q.o ++ opsC (relO 1 q.s)) r q.orr q.ls q.E q.pO q.pA) + 1 = totQ q := by
        rw [totQ_mk, totQ_q]; rw [List.length_append, opsC_len]; omega
      show _ ≤ (tk K (K q.y.2) q.y).2 + (tk K (K q.y.2) q.y).1; omega
    · show wN q + b0 ≤ (tk K (K q.y.2) q.y).2 + (tk K (K q.y.2) q.y).1; omega
    · show wfC 16 _ 0 (nop r + (if q.b = true then 1 else 0))
      rw [hb', if_pos rfl]
      refine wfC_app h9 ?_
      have h3 := wfC_ops (m := 16) (s := relO 1 q.s) (d := nop r) (relO_ops (by decide) h4)
      rw [show nop q.s + 1 = nop r + 1 + (relO 1 q.s).length by omega]
      exact h3
  rw [if_neg c1]
  by_cases c2 : 24 ≤ K q.y.2 ∧ K q.y.2 ≤ 27
  · rw [if_pos c2]
    obtain ⟨t1, t2, t3⟩ := tks (by omega)
    have htg : 5 ≤ tg (K q.y.2) ∧ tg (K q.y.2) ≤ 6 := by have := tg_op c2; omega
    have e4 := rel_len (tg (K q.y.2)) q.s
    have e5 := nop_app (tg (K q.y.2)) q.s (relO_nop (by omega) q.s)
    have e6 := rel_opn (t := tg (K q.y.2)) (by omega) q.s
    have e7 := rel_tpw h4 htg.1 htg.2
    have e8 : K q.y.2 ≠ 32 := by omega
    refine ⟨⟨t1, ⟨relR_SK h4, Or.inr ⟨c2, e7⟩⟩, ?_, ?_, ?_, h8, ?_, h10, h11, h12, fun z => absurd z Bool.false_ne_true, fun _ => h13 hb'⟩, t3⟩
    · show opn (K q.y.2 :: relR (tg (K q.y.2)) q.s) ≤ 6
      rw [opn, if_neg e8]; omega
    · have e : totQ (mkQ (tk K (K q.y.2) q.y) false q.g q.ng q.lf (q.o ++ opsC (relO (tg (K q.y.2)) q.s)) (K q.y.2 :: relR (tg (K q.y.2)) q.s) q.orr q.ls q.E q.pO q.pA) = totQ q + 1 := by
        rw [totQ_mk, totQ_q]; rw [List.length_append, opsC_len, List.length_cons]; omega
      rw [e]; show _ ≤ (tk K (K q.y.2) q.y).2 + (tk K (K q.y.2) q.y).1; omega
    · have e : wN (mkQ (tk K (K q.y.2) q.y) false q.g q.ng q.lf (q.o ++ opsC (relO (tg (K q.y.2)) q.s)) (K q.y.2 :: relR (tg (K q.y.2)) q.s) q.orr q.ls q.E q.pO q.pA) + 1 = wN q := by
        rw [hw, wN_mk, if_neg (show ¬ false = true by decide)]
      show _ ≤ (tk K (K q.y.2) q.y).2 + (tk K (K q.y.2) q.y).1; omega
    · show wfC 16 _ 0 (nop (K q.y.2 :: relR (tg (K q.y.2)) q.s) + (if false = true then 1 else 0))
      rw [nop, if_neg e8, if_neg (show ¬ false = true by decide)]
      refine wfC_app h9 ?_
      have h3 := wfC_ops (m := 16) (s := relO (tg (K q.y.2)) q.s) (d := nop (relR (tg (K q.y.2)) q.s)) (relO_ops (by omega) h4)
      rw [show nop q.s + 1 = nop (relR (tg (K q.y.2)) q.s) + 1 + (relO (tg (K q.y.2)) q.s).length by omega]
      exact h3
  rw [if_neg c2]
  cases hlf : q.lf with
  | none =>
    dsimp only
    by_cases c3 : (28 ≤ K q.y.2 ∧ K q.y.2 ≤ 31) ∧ opn q.s = 0
    · rw [if_pos c3]
      obtain ⟨t1, t2, t3⟩ := tks (by omega)
      have e4 := rel_len 1 q.s
      have e5 := (rel_all h4 c3.2 (t := 1) (by decide)).2
      rw [e5] at e4
      refine ⟨⟨t1, trivial, Nat.zero_le _, ?_, ?_, h8, rfl, ?_, h11, fun _ => h13 hb', fun z => absurd z Bool.false_ne_true, fun z => absurd rfl z⟩, t3⟩
      · have e : totQ (mkQ (tk K (K q.y.2) q.y) false q.g q.ng (some (K q.y.2 - 28, q.o ++ opsC (relO 1 q.s))) [] [] q.orr q.ls q.E q.pO q.pA) = totQ q + 1 := by
          rw [totQ_mk, totQ_q, hlf]; simp only [lfN_s, lfN_n]; rw [List.length_append, opsC_len]
          simp only [List.length_nil] at e4 ⊢
          omega
        rw [e]; show _ ≤ (tk K (K q.y.2) q.y).2 + (tk K (K q.y.2) q.y).1; omega
      · have e : wN (mkQ (tk K (K q.y.2) q.y) false q.g q.ng (some (K q.y.2 - 28, q.o ++ opsC (relO 1 q.s))) [] [] q.orr q.ls q.E q.pO q.pA) = wN q + 1 := by
          rw [hw, hlf, wN_mk]
          rw [if_neg (show ¬ false = true by decide), if_pos rfl, if_neg (by intro z; cases z)]
        rw [e]; show _ ≤ (tk K (K q.y.2) q.y).2 + (tk K (K q.y.2) q.y).1; omega
      · intro how l z
        obtain ⟨rfl, rfl⟩ := Prod.mk.inj (Option.some.inj z)
        exact ⟨by omega, wfC_end h4 c3.2 h9⟩
    · rw [if_neg c3]; have := fl 1 (by decide) (by decide); rw [hlf] at this; exact this
  | some x =>
    obtain ⟨how, l⟩ := x
    dsimp only
    have hlw := h10 how l hlf
    have e4 := rel_len 1 q.s
    by_cases c3 : K q.y.2 = 14 ∧ opn q.s = 0
    · rw [if_pos c3]
      obtain ⟨t1, t2, t3⟩ := tks (by omega)
      have e5 := (rel_all h4 c3.2 (t := 1) (by decide)).2
      rw [e5] at e4
      refine ⟨⟨t1, trivial, Nat.zero_le _, ?_, ?_, ?_, rfl, (fun how l z => by cases z), ?_, fun z => absurd rfl z, fun z => absurd z Bool.false_ne_true, fun z => absurd rfl z⟩, t3⟩
      · have e : totQ (mkQ (tk K (K q.y.2) q.y) false false 0 none [] [] false (q.ls ++ [(q.orr, q.ng, how, l, q.o ++ opsC (relO 1 q.s))]) (q.E ++ (litS how q.ng l (q.o ++ opsC (relO 1 q.s)) ++ andS q.pA)) q.pO true) = totQ q + 1 := by
          rw [totQ_mk, totQ_q, hlf]; simp only [lfN_s, lfN_n]; rw [List.length_append, List.length_append, litS_len, andS_len, List.length_append, opsC_len]
          simp only [List.length_nil, if_true] at e4 ⊢
          omega
        rw [e]; show _ ≤ (tk K (K q.y.2) q.y).2 + (tk K (K q.y.2) q.y).1; omega
      · have e : wN (mkQ (tk K (K q.y.2) q.y) false false 0 none [] [] false (q.ls ++ [(q.orr, q.ng, how, l, q.o ++ opsC (relO 1 q.s))]) (q.E ++ (litS how q.ng l (q.o ++ opsC (relO 1 q.s)) ++ andS q.pA)) q.pO true) = wN q := by
          rw [hw, hlf, wN_mk]
          rw [if_neg (show ¬ false = true by decide), if_pos rfl, if_neg (by intro z; cases z), List.length_append]
          simp only [List.length_cons, List.length_nil]
          omega
        rw [e]; show _ ≤ (tk K (K q.y.2) q.y).2 + (tk K (K q.y.2) q.y).1; omega
      · show cdt (q.ls ++ [_]) ≤ (q.E ++ _).length
        rw [cdt_app, List.length_append, List.length_append, litS_len]
        show cdt q.ls + (l.length + (q.o ++ opsC (relO 1 q.s)).length + 0) ≤ _
        omega
      · intro x hx
        rcases List.mem_append.mp hx with z | z
        · exact h11 x z
        · rw [List.mem_singleton.mp z]
          exact ⟨hlw.1, hlw.2, wfC_end h4 c3.2 h9⟩
    rw [if_neg c3]
    by_cases c4 : K q.y.2 = 13 ∧ opn q.s = 0
    · rw [if_pos c4]
      obtain ⟨t1, t2, t3⟩ := tks (by omega)
      have e5 := (rel_all h4 c4.2 (t := 1) (by decide)).2
      rw [e5] at e4
      refine ⟨⟨t1, trivial, Nat.zero_le _, ?_, ?_, ?_, rfl, (fun how l z => by cases z), ?_, fun z => absurd rfl z, fun z => absurd z Bool.false_ne_true, fun z => absurd rfl z⟩, t3⟩
      · have e : totQ (mkQ (tk K (K q.y.2) q.y) false false 0 none [] [] true (q.ls ++ [(q.orr, q.ng, how, l, q.o ++ opsC (relO 1 q.s))]) (q.E ++ (litS how q.ng l (q.o ++ opsC (relO 1 q.s)) ++ (andS q.pA ++ orS q.pO))) true false) = totQ q + 1 := by
          rw [totQ_mk, totQ_q, hlf]; simp only [lfN_s, lfN_n]; rw [List.length_append, List.length_append, List.length_append, litS_len, andS_len, orS_len, List.length_append, opsC_len]
          simp only [List.length_nil, if_true] at e4 ⊢
          rw [if_neg (show ¬ false = true by decide)]
          omega
        rw [e]; show _ ≤ (tk K (K q.y.2) q.y).2 + (tk K (K q.y.2) q.y).1; omega
      · have e : wN (mkQ (tk K (K q.y.2) q.y) false false 0 none [] [] true (q.ls ++ [(q.orr, q.ng, how, l, q.o ++ opsC (relO 1 q.s))]) (q.E ++ (litS how q.ng l (q.o ++ opsC (relO 1 q.s)) ++ (andS q.pA ++ orS q.pO))) true false) = wN q := by
          rw [hw, hlf, wN_mk]
          rw [if_neg (show ¬ false = true by decide), if_pos rfl, if_neg (by intro z; cases z), List.length_append]
          simp only [List.length_cons, List.length_nil]
          omega
        rw [e]; show _ ≤ (tk K (K q.y.2) q.y).2 + (tk K (K q.y.2) q.y).1; omega
      · show cdt (q.ls ++ [_]) ≤ (q.E ++ _).length
        rw [cdt_app, List.length_append, List.length_append, litS_len]
        show cdt q.ls + (l.length + (q.o ++ opsC (relO 1 q.s)).length + 0) ≤ _
        omega
      · intro x hx
        rcases List.mem_append.mp hx with z | z
        · exact h11 x z
        · rw [List.mem_singleton.mp z]
          exact ⟨hlw.1, hlw.2, wfC_end h4 c4.2 h9⟩
    · rw [if_neg c4]; have := fl 1 (by decide) (by decide); rw [hlf] at this; exact this
