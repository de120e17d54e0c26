/-! ===== laws: the steps of the class come to what the reference's comparisons do ===== -/
/-- the pile between two comparisons -/
def pilQ (v : Nat → Int32) (q : CQ) : List Int32 := (if q.pA = true then [bI (gr v q.ls (false, false)).2] else []) ++ (if q.pO = true then [bI (if q.pA = true then (gr v q.ls (false, false)).1 else lawV v q.ls)] else [])
def CQU (q : CQ) : Prop := uC q.o ∧ (∀ how l, q.lf = some (how, l) → uC l) ∧ ∀ x ∈ q.ls, uC x.2.2.2.1 ∧ uC x.2.2.2.2
def CQS (q : CQ) : Prop := CQU q ∧ ((q.orr = true ∧ q.pA = false ∧ (q.pO = false → q.ls = [])) ∨ (q.orr = false ∧ q.pA = true ∧ (q.pO = false → ∀ v, (gr v q.ls (false, false)).1 = false))) ∧ (∀ v, exC v q.E ([], false) = (pilQ v q, false)) ∧ wE q.E 0 ((if q.pA = true then 1 else 0) + (if q.pO = true then 1 else 0))
theorem CQS.init (y : Nat × Nat) : CQS (cInit y) := ⟨⟨(fun x hx => by cases hx), (fun how l h => by cases h), (fun x hx => by cases hx)⟩, Or.inl ⟨rfl, rfl, fun _ => rfl⟩, fun v => rfl, rfl⟩
/-- a step that ends no comparison -/
theorem CQS.mv {q q' : CQ} (h : CQS q) (hu : CQU q') (e1 : q'.orr = q.orr) (e2 : q'.ls = q.ls) (e3 : q'.E = q.E) (e4 : q'.pO = q.pO) (e5 : q'.pA = q.pA) : CQS q' := by
  obtain ⟨h1, h2, h3, h4⟩ := h
  refine ⟨hu, ?_, fun v => ?_, ?_⟩
  · rw [e1, e2, e4, e5]; exact h2
  · unfold pilQ; rw [e2, e3, e4, e5]; exact h3 v
  · rw [e3, e4, e5]; exact h4
/-- and, or: two truths -/
theorem stp_and {v : Nat → Int32} {a b : Bool} {t : List Int32} {z : Bool} : stp v (14, 0) (bI a :: bI b :: t, z) = (bI (b && a) :: t, z) := by cases a <;> cases b <;> cases z <;> rfl
theorem stp_or {v : Nat → Int32} {a b : Bool} {t : List Int32} {z : Bool} : stp v (13, 0) (bI a :: bI b :: t, z) = (bI (b || a) :: t, z) := by cases a <;> cases b <;> cases z <;> rfl
theorem pil_end {v : Nat → Int32} {pO pA orr t : Bool} {g : Bool × Bool} (h : (orr = true ∧ pA = false ∧ (pO = false → g = (false, false))) ∨ (orr = false ∧ pA = true ∧ (pO = false → g.1 = false))) :
    exC v (andS pA ++ orS pO) (bI t :: ((if pA = true then [bI g.2] else []) ++ (if pO = true then [bI (if pA = true then g.1 else (g.1 || g.2))] else [])), false) = ([bI ((if orr = true then (g.1 || g.2, t) else (g.1, g.2 && t)).1 || (if orr = true then (g.1 || g.2, t) else (g.1, g.2 && t)).2)], false) := by
  obtain ⟨g1, g2⟩ := g
  cases pO <;> cases pA <;> cases orr <;> cases t <;> cases g1 <;> cases g2 <;> first | rfl | (simp at h)
theorem pil_and {v : Nat → Int32} {pO pA orr t : Bool} {g : Bool × Bool} (h : (orr = true ∧ pA = false ∧ (pO = false → g = (false, false))) ∨ (orr = false ∧ pA = true ∧ (pO = false → g.1 = false))) :
    exC v (andS pA) (bI t :: ((if pA = true then [bI g.2] else []) ++ (if pO = true then [bI (if pA = true then g.1 else (g.1 || g.2))] else [])), false) = ([bI (if orr = true then (g.1 || g.2, t) else (g.1, g.2 && t)).2] ++ (if pO = true then [bI (if orr = true then (g.1 || g.2, t) else (g.1, g.2 && t)).1] else []), false) := by
  obtain ⟨g1, g2⟩ := g
  cases pO <;> cases pA <;> cases orr <;> cases t <;> cases g1 <;> cases g2 <;> first | rfl | (simp at h)
theorem wE_and {d : Nat} (hd : 2 ≤ d) : wE [(14, 0)] d (d - 1) := by
  unfold wE
  rw [if_neg (by decide), if_neg (by decide)]
  exact ⟨Or.inl (Or.inr rfl), hd, rfl⟩
theorem wE_or {d : Nat} (hd : 2 ≤ d) : wE [(13, 0)] d (d - 1) := by
  unfold wE
  rw [if_neg (by decide), if_neg (by decide)]
  exact ⟨Or.inl (Or.inl rfl), hd, rfl⟩
theorem wE_end {how ng : Nat} {l r : CD} (hh : how ≤ 3) (ul : uC l) (ur : uC r) (wl : wfC 16 l 0 1) (wr : wfC 16 r 0 1) : ∀ pO pA : Bool, wE (litS how ng l r ++ (andS pA ++ orS pO)) ((if pA = true then 1 else 0) + (if pO = true then 1 else 0)) 1 := fun pO pA => by
  cases pO <;> cases pA
  · exact wE_app (wE_lit (D := 0) (by decide) hh ul ur wl wr) rfl
  · exact wE_app (wE_lit (D := 1) (by decide) hh ul ur wl wr) (wE_and (d := 2) (by decide))
  · exact wE_app (wE_lit (D := 1) (by decide) hh ul ur wl wr) (wE_or (d := 2) (by decide))
  · exact wE_app (wE_lit (D := 2) (by decide) hh ul ur wl wr) (wE_app (wE_and (d := 3) (by decide)) (wE_or (d := 2) (by decide)))
theorem wE_endA {how ng : Nat} {l r : CD} (hh : how ≤ 3) (ul : uC l) (ur : uC r) (wl : wfC 16 l 0 1) (wr : wfC 16 r 0 1) : ∀ pO pA : Bool, wE (litS how ng l r ++ andS pA) ((if pA = true then 1 else 0) + (if pO = true then 1 else 0)) (1 + (if pO = true then 1 else 0)) := fun pO pA => by
  cases pO <;> cases pA
  · exact wE_app (wE_lit (D := 0) (by decide) hh ul ur wl wr) rfl
  · exact wE_app (wE_lit (D := 1) (by decide) hh ul ur wl wr) (wE_and (d := 2) (by decide))
  · exact wE_app (wE_lit (D := 1) (by decide) hh ul ur wl wr) rfl
  · exact wE_app (wE_lit (D := 2) (by decide) hh ul ur wl wr) (wE_and (d := 3) (by decide))
theorem CQS.h2 {q : CQ} (h : CQS q) (v : Nat → Int32) : (q.orr = true ∧ q.pA = false ∧ (q.pO = false → gr v q.ls (false, false) = (false, false))) ∨ (q.orr = false ∧ q.pA = true ∧ (q.pO = false → (gr v q.ls (false, false)).1 = false)) := by
  rcases h.2.1 with ⟨o1, o2, o3⟩ | ⟨o1, o2, o3⟩
  · exact Or.inl ⟨o1, o2, fun z => by rw [o3 z]; rfl⟩
  · exact Or.inr ⟨o1, o2, fun z => o3 z v⟩
/-- what the pile is behind a comparison that ends with or, or with the condition -/
theorem CQS.fin {q : CQ} (h : CQS q) {how : Nat} {l r : CD} (hlf : q.lf = some (how, l)) (hh : how ≤ 3) (wl : wfC 16 l 0 1) (wr : wfC 16 r 0 1) (ur : uC r) : (∀ v, exC v (q.E ++ (litS how q.ng l r ++ (andS q.pA ++ orS q.pO))) ([], false) = ([bI (lawV v (q.ls ++ [(q.orr, q.ng, how, l, r)]))], false)) ∧ wE (q.E ++ (litS how q.ng l r ++ (andS q.pA ++ orS q.pO))) 0 1 := by
  have h2 := h.h2
  obtain ⟨⟨u1, u2, u3⟩, _, h3, h4⟩ := h
  have ul := u2 how l hlf
  refine ⟨fun v => ?_, wE_app h4 (wE_end hh ul ur wl wr q.pO q.pA)⟩
  rw [exC_app, h3, exC_app, ex_lit hh ul ur wl wr]
  unfold lawV
  rw [gr_app]
  exact pil_end (v := v) (t := litV v (q.orr, q.ng, how, l, r)) (h2 v)
theorem wfC_fin {K : Nat → Nat} {b0 : Nat} {q : CQ} (hQ : CQI K b0 q) (hb : q.b = true) (ho : opn q.s = 0) : wfC 16 (q.o ++ opsC (relO 1 q.s)) 0 1 := by
  obtain ⟨hY, h4, h5, h6, h7, h8, h9, _⟩ := hQ
  rw [hb, if_pos rfl] at h9
  exact wfC_end h4 ho h9
theorem CQS.st {K V : Nat → Nat} {b0 : Nat} {q : CQ} (h : CQS q) (hQ : CQI K b0 q) : CQS (cst K V q) := by
  have h' := h
  obtain ⟨⟨u1, u2, u3⟩, h2, h3, h4⟩ := h
  have hS := hQ.2.1
  have uo : ∀ t, 1 ≤ t → uC (q.o ++ opsC (relO t q.s)) := fun t ht => uC_app u1 (uC_ops (relO_ops ht hS))
  unfold cst
  by_cases hb : q.b = false
  · rw [if_pos hb]
    split
    · exact h'.mv ⟨u1, u2, u3⟩ rfl rfl rfl rfl rfl
    split
    · split
      · exact h'.mv ⟨u1, u2, u3⟩ rfl rfl rfl rfl rfl
      · exact h'.mv ⟨u1, u2, u3⟩ rfl rfl rfl rfl rfl
    split
    · rename_i c3
      refine h'.mv ⟨uC_app u1 (fun x hx => ?_), u2, u3⟩ rfl rfl rfl rfl rfl
      rw [List.mem_singleton.mp hx]
      show K q.y.2 = 21 ∨ (16 ≤ K q.y.2 ∧ K q.y.2 ≤ 19) ∨ _
      rcases c3 with z | z
      · exact Or.inl z
      · exact Or.inr (Or.inl z)
    · exact h'.mv ⟨u1, u2, u3⟩ rfl rfl rfl rfl rfl
  rw [if_neg hb]
  have hb' : q.b = true := by simpa using hb
  split
  · exact h'.mv ⟨uo 1 (Nat.le_refl _), u2, u3⟩ rfl rfl rfl rfl rfl
  split
  · rename_i c2
    have := tg_op c2
    exact h'.mv ⟨uo _ (by omega), u2, u3⟩ rfl rfl rfl rfl rfl
  cases hlf : q.lf with
  | none =>
    dsimp only
    split
    · refine h'.mv ⟨(fun x hx => by cases hx), fun how l e => ?_, u3⟩ rfl rfl rfl rfl rfl
      have e2 := Option.some.inj e
      have e3 : q.o ++ opsC (relO 1 q.s) = l := (Prod.mk.inj e2).2
      rw [← e3]
      exact uo 1 (Nat.le_refl _)
    · exact h'.mv ⟨u1, (fun how l e => by cases e), u3⟩ rfl rfl rfl rfl rfl
  | some x =>
    obtain ⟨how, l⟩ := x
    dsimp only
    have hlw := hQ.2.2.2.2.2.2.2.1 how l hlf
    have ul := u2 how l hlf
    split
    · rename_i c3
      have wr := wfC_fin hQ hb' c3.2
      have ur := uo 1 (Nat.le_refl _)
      refine ⟨⟨(fun x hx => by cases hx), (fun how l e => by cases e), fun x hx => ?_⟩, Or.inr ⟨rfl, rfl, fun hp v => ?_⟩, fun v => ?_, ?_⟩
      · rcases List.mem_append.mp hx with z | z
        · exact u3 x z
        · rw [List.mem_singleton.mp z]; exact ⟨ul, ur⟩
      · show (gr v (q.ls ++ [_]) (false, false)).1 = false
        rw [gr_app]
        unfold grS
        have hp' : q.pO = false := hp
        rcases h2 with ⟨o1, o2, o3⟩ | ⟨o1, o2, o3⟩
        · rw [if_pos o1, o3 hp']; rfl
        · rw [if_neg (show ¬ q.orr = true by rw [o1]; decide)]; exact o3 hp' v
      · show exC v (q.E ++ (litS how q.ng l (q.o ++ opsC (relO 1 q.s)) ++ andS q.pA)) ([], false) = ([bI (gr v (q.ls ++ [(q.orr, q.ng, how, l, q.o ++ opsC (relO 1 q.s))]) (false, false)).2] ++ (if q.pO = true then [bI (gr v (q.ls ++ [(q.orr, q.ng, how, l, q.o ++ opsC (relO 1 q.s))]) (false, false)).1] else []), false)
        rw [exC_app, h3, exC_app, ex_lit hlw.1 ul ur hlw.2 wr, gr_app]
        exact pil_and (v := v) (t := litV v (q.orr, q.ng, how, l, q.o ++ opsC (relO 1 q.s))) (h'.h2 v)
      · exact wE_app h4 (wE_endA hlw.1 ul ur hlw.2 wr q.pO q.pA)
    split
    · rename_i c4
      have wr := wfC_fin hQ hb' c4.2
      have ur := uo 1 (Nat.le_refl _)
      obtain ⟨f1, f2⟩ := h'.fin hlf hlw.1 hlw.2 wr ur
      refine ⟨⟨(fun x hx => by cases hx), (fun how l e => by cases e), fun x hx => ?_⟩, Or.inl ⟨rfl, rfl, (fun hp => by cases hp)⟩, fun v => ?_, f2⟩
      · rcases List.mem_append.mp hx with z | z
        · exact u3 x z
        · rw [List.mem_singleton.mp z]; exact ⟨ul, ur⟩
      · exact f1 v
    · exact h'.mv ⟨u1, (fun how' l' e => by
        have e2 := Option.some.inj e
        have e3 : l = l' := (Prod.mk.inj e2).2
        rw [← e3]; exact ul), u3⟩ rfl rfl rfl rfl rfl
/-- a law: its comparisons, its steps -/
def LawOK (ls : List LT) (E : CD) : Prop := (∀ v, exC v E ([], false) = ([bI (lawV v ls)], false)) ∧ wE E 0 1 ∧ ∀ x ∈ ls, ltW x ∧ uC x.2.2.2.1 ∧ uC x.2.2.2.2
theorem crun_S {K V : Nat → Nat} {b0 : Nat} : ∀ (n : Nat) (q : CQ), CQI K b0 q → CQS q → CQS (crun K V n q) := by
  intro n
  induction n with
  | zero => intro q _ h; exact h
  | succ n ih =>
    intro q hQ h
    rw [crun]
    by_cases c : cdnB K q = true
    · rw [if_pos c]; exact h
    · rw [if_neg c]
      have nd : ¬ cdn K q := fun z => c (cdnB_iff.mpr z)
      exact ih _ (hQ.st (V := V) nd).1 (h.st hQ)
theorem crun_dn {K V : Nat → Nat} {b0 : Nat} : ∀ (n : Nat) (q : CQ), CQI K b0 q → cms q.y < n → cdn K (crun K V n q) := by
  intro n
  induction n with
  | zero => intro q _ h; omega
  | succ n ih =>
    intro q hQ h
    rw [crun]
    by_cases c : cdnB K q = true
    · rw [if_pos c]; exact cdnB_iff.mp c
    · rw [if_neg c]
      have nd : ¬ cdn K q := fun z => c (cdnB_iff.mpr z)
      obtain ⟨h1, h2⟩ := hQ.st (V := V) nd
      exact ih _ h1 (by omega)
theorem lawQ_ok {K V : Nat → Nat} {y : Nat × Nat} (hw : yW K y) (h0 : (lawQ K V y).y.1 = 0) : LawOK (cfL (lawQ K V y)) (cfE (lawQ K V y)) := by
  have w : yW K (tk K 12 y) := tk_w hw (by decide)
  have hi := CQI.init w
  have hQ := (crun_w (V := V) 402 _ hi).1
  have hS := crun_S (V := V) 402 _ hi (CQS.init _)
  have hc4 : cms (tk K 12 y) ≤ 401 := by unfold cms; split <;> omega
  have hc5 : cms (cInit (tk K 12 y)).y < 402 := Nat.lt_succ_of_le hc4
  have hd := crun_dn (V := V) 402 _ hi hc5
  have hQ : CQI K _ (lawQ K V y) := hQ
  have hS : CQS (lawQ K V y) := hS
  have hd : cdn K (lawQ K V y) := hd
  generalize lawQ K V y = q at *
  rcases hd with z | ⟨d1, d2, d3, d4⟩
  · exact absurd h0 z
  cases hlf : q.lf with
  | none => exact absurd hlf d4
  | some x =>
    obtain ⟨how, l⟩ := x
    have hlw := hQ.2.2.2.2.2.2.2.1 how l hlf
    have wr := wfC_fin hQ d2 d3
    have ur : uC (q.o ++ opsC (relO 1 q.s)) := uC_app hS.1.1 (uC_ops (relO_ops (Nat.le_refl _) hQ.2.1))
    obtain ⟨f1, f2⟩ := hS.fin hlf hlw.1 hlw.2 wr ur
    have eL : cfL q = q.ls ++ [(q.orr, q.ng, how, l, q.o ++ opsC (relO 1 q.s))] := by unfold cfL; rw [hlf]
    have eE : cfE q = q.E ++ (litS how q.ng l (q.o ++ opsC (relO 1 q.s)) ++ (andS q.pA ++ orS q.pO)) := by unfold cfE; rw [hlf]
    rw [eL, eE]
    refine ⟨f1, f2, fun x hx => ?_⟩
    rcases List.mem_append.mp hx with z | z
    · exact ⟨hQ.2.2.2.2.2.2.2.2.1 x z, hS.1.2.2 x z⟩
    · rw [List.mem_singleton.mp z]
      exact ⟨⟨hlw.1, hlw.2, wr⟩, hS.1.2.1 how l hlf, ur⟩
/-- the laws of a text -/
def SYL (Y : SY) : Prop := Y.1.1 = 0 → ∀ s, s < 2 → (Y.2.2.1 s).length = Y.2.1 (9 + s) ∧ (Y.2.2.2 s).length = Y.2.1 (9 + s) ∧ ∀ i, i < Y.2.1 (9 + s) → LawOK ((Y.2.2.1 s).getD i []) ((Y.2.2.2 s).getD i [])
theorem syT_L {K V : Nat → Nat} {Y : SY} (hw : yW K Y.1) (h0 : Y.1.1 = 0) (h : SYL Y) : SYL (syT K V Y) := by
  intro hz s hs
  have hl := h h0 s hs
  have hk : K Y.1.2 < 11 := by
    rcases Nat.lt_or_ge (K Y.1.2) 11 with q | q
    · exact q
    · rw [syT_f (by omega)] at hz; cases hz
  have hz' : (tY K V (K Y.1.2) (Y.2.1 (K Y.1.2)) Y.1).1 = 0 := by rw [← syT_1 hk]; exact hz
  rw [syT_cnt hk]
  unfold syT
  rw [if_pos hk]
  dsimp only
  by_cases c : 9 ≤ K Y.1.2
  case neg =>
    rw [if_neg c, if_neg c, upN_n (by omega)]
    exact hl
  rw [if_pos c, if_pos c]
  by_cases e : s = K Y.1.2 - 9
  case neg =>
    rw [upN_n e, upN_n e, upN_n (by omega)]
    exact hl
  have ek : 9 + s = K Y.1.2 := by omega
  subst e
  rw [ek] at hl
  rw [upN_s, upN_s, ek, upN_s]
  have hq0 : (lawQ K V (begY K (K Y.1.2) (Y.2.1 (K Y.1.2)) Y.1)).y.1 = 0 := by
    unfold tY at hz'
    obtain ⟨a1, _⟩ := tk_0 hz'
    rw [pfx_law c] at a1
    exact a1
  have hok := lawQ_ok (V := V) (begY_w (m := Y.2.1 (K Y.1.2)) hw hk) hq0
  refine ⟨by rw [List.length_append, hl.1]; rfl, by rw [List.length_append, hl.2.1]; rfl, fun i hi => ?_⟩
  by_cases ei : i = Y.2.1 (K Y.1.2)
  · rw [ei]
    have g1 := getD_last (A := Y.2.2.1 (K Y.1.2 - 9)) (x := cfL (lawQ K V (begY K (K Y.1.2) (Y.2.1 (K Y.1.2)) Y.1))) (d := [])
    have g2 := getD_last (A := Y.2.2.2 (K Y.1.2 - 9)) (x := cfE (lawQ K V (begY K (K Y.1.2) (Y.2.1 (K Y.1.2)) Y.1))) (d := [])
    rw [hl.1] at g1
    rw [hl.2.1] at g2
    rw [g1, g2]
    exact hok
  · rw [getD_app (by rw [hl.1]; omega), getD_app (by rw [hl.2.1]; omega)]
    exact hl.2.2 i (by omega)
theorem syR_L {K V : Nat → Nat} : ∀ (n : Nat) (Y : SY), yW K Y.1 → SYL Y → SYL (syR K V n Y) := by
  intro n
  induction n with
  | zero => intro Y _ h; exact h
  | succ n ih =>
    intro Y hw h
    by_cases d : Y.1.1 ≠ 0 ∨ K Y.1.2 = 35
    · rw [syR_done d]; exact h
    · have e : syR K V (n + 1) Y = syR K V n (syT K V Y) := if_neg d
      rw [e]
      exact ih _ (syT_w hw (by omega)).1 (syT_L hw (by omega) h)
